/-! ===== a fresh object: calls whose run is one road ===== -/
theorem x_lit {S : SPr} {d : Nat} {M : MI} {pc : Nat} {ls st : List Value} {lay : HL} {VI : VIT} {VL : VLT} {VR : VRT} {bc bs : Nat} {P : Post} {a b : Int32} (e : a = b) (k : ExS S d M pc ls (.int b :: st) lay VI VL VR bc bs P) : ExS S d M pc ls (.int a :: st) lay VI VL VR bc bs P := e ▸ k
set_option maxRecDepth 20000 in
set_option maxHeartbeats 8000000 in
theorem cx_law {d : Nat} {P : Post} (hP : PX P (-6)) : Ex (d + 11) mi118 0 (entL [.ref 0] 3) [] (LY ++ []) VIm ZL (vr ZR) 0 0 P := by
  refine x_aload_n rfl rfl ?_
  refine x_callV (M' := mi148) (As := []) (bc1 := 0) (bs1 := 0) (bc2 := 0) (bs2 := 0) rfl rfl rfl rfl ok148 rfl rfl (by decide) rfl rfl rfl rfl rfl rfl ?_
  refine x_aload_n rfl rfl ?_
  refine x_getE (y := 13) (u := 0) rfl rfl rfl rfl ?_
  refine x_istore_n (ls' := [_, _]) rfl rfl rfl ?_
  refine x_aload_n rfl rfl ?_
  refine x_iconst rfl ?_
  refine x_putI rfl rfl rfl rfl ?_
  refine x_iload_n rfl rfl ?_
  refine x_iret rfl rfl ?_
  refine x_istore_n (ls' := [_, _, _]) rfl rfl rfl ?_
  refine x_aload_n rfl rfl ?_
  refine x_getR (u := .ref _) rfl rfl rfl rfl ?_
  refine x_getE (y := 14) (u := 0) rfl rfl rfl rfl ?_
  refine x_bipush rfl ?_
  refine x_icmp_lt rfl (fun c => ?_) (fun c => ?_)
  rotate_left
  · exact absurd c (by decide)
  refine x_aload_n rfl rfl ?_
  refine x_getR (u := .ref _) rfl rfl rfl rfl ?_
  refine x_aload_n rfl rfl ?_
  refine x_getR (u := .ref _) rfl rfl rfl rfl ?_
  refine x_iload_n rfl rfl ?_
  refine x_iconst rfl ?_
  refine x_callV (M' := mi40) (As := [_, _, _]) (bc1 := 0) (bs1 := 0) (bc2 := 0) (bs2 := 0) rfl rfl rfl rfl ok40 rfl rfl (by decide) rfl rfl rfl rfl rfl rfl ?_
  refine x_aload_n rfl rfl ?_
  refine x_iload_n rfl rfl ?_
  refine x_putZ rfl rfl rfl rfl (by first | exact Or.inl rfl | exact Or.inr rfl) ?_
  refine x_aload_n rfl rfl ?_
  refine x_iconst rfl ?_
  refine x_putI rfl rfl rfl rfl ?_
  refine x_aload_n rfl rfl ?_
  refine x_iconst rfl ?_
  refine x_putI rfl rfl rfl rfl ?_
  refine x_aload_n rfl rfl ?_
  refine x_iconst rfl ?_
  refine x_putI rfl rfl rfl rfl ?_
  refine x_aload_n rfl rfl ?_
  refine x_getR (u := .ref _) rfl rfl rfl rfl ?_
  refine x_callV (M' := mi82) (As := []) (bc1 := 0) (bs1 := 0) (bc2 := 0) (bs2 := 0) rfl rfl rfl rfl ok82 rfl rfl (by decide) rfl rfl rfl rfl rfl rfl ?_
  refine x_aload_n rfl rfl ?_
  refine x_iconst rfl ?_
  refine x_putI rfl rfl rfl rfl ?_
  refine x_aload_n rfl rfl ?_
  refine x_iconst rfl ?_
  refine x_putI rfl rfl rfl rfl ?_
  refine x_vret rfl rfl ?_
  refine x_aload_n rfl rfl ?_
  refine x_aload_n rfl rfl ?_
  refine x_iload_n rfl rfl ?_
  refine x_aload_n rfl rfl ?_
  refine x_alen0 rfl rfl ?_
  refine x_lit (b := 400) (by decide) ?_
  refine x_sipush rfl ?_
  refine x_min rfl rfl ?_
  refine x_lit (b := 400) (by decide) ?_
  refine x_min rfl rfl ?_
  refine x_lit (b := 0) (by decide) ?_
  refine x_callV (M' := mi41) (As := [_, _]) (bc1 := 0) (bs1 := 0) (bc2 := 0) (bs2 := 0) rfl rfl rfl rfl ok41 rfl rfl (by decide) rfl rfl rfl rfl rfl rfl ?_
  refine x_aload_n rfl rfl ?_
  refine x_iconst rfl ?_
  refine x_putI rfl rfl rfl rfl ?_
  refine x_iconst rfl ?_
  refine x_istore_n (ls' := [_, _, _, _, _]) rfl rfl rfl ?_
  refine x_iload_n rfl rfl ?_
  refine x_iload_n rfl rfl ?_
  refine x_icmp_ge rfl (fun c => ?_) (fun c => ?_)
  rotate_left
  · exact absurd c (by decide)
  refine x_aload_n rfl rfl ?_
  refine x_sipush rfl ?_
  refine x_iload_n rfl rfl ?_
  refine x_callV (M' := mi42) (As := [_, _]) (bc1 := 0) (bs1 := 0) (bc2 := 0) (bs2 := 0) rfl rfl rfl rfl ok42 rfl rfl (by decide) rfl rfl rfl rfl rfl rfl ?_
  refine x_aload_n rfl rfl ?_
  refine x_getE (y := 4) (u := 0) rfl rfl rfl rfl ?_
  refine x_aload_n rfl rfl ?_
  refine x_getR (u := .ref _) rfl rfl rfl rfl ?_
  refine x_alen0 rfl rfl ?_
  refine x_lit (b := 401) (by decide) ?_
  refine x_icmp_ge rfl (fun c => ?_) (fun c => ?_)
  · exact absurd c (by decide)
  refine x_aload_n rfl rfl ?_
  refine x_getR (u := .ref _) rfl rfl rfl rfl ?_
  refine x_aload_n rfl rfl ?_
  refine x_getE (y := 4) (u := 0) rfl rfl rfl rfl ?_
  refine x_iload_n rfl rfl ?_
  refine x_iasN (j := 0) rfl rfl rfl (by decide) ?_
  refine x_aload_n rfl rfl ?_
  refine x_getR (u := .ref _) rfl rfl rfl rfl ?_
  refine x_aload_n rfl rfl ?_
  refine x_getE (y := 4) (u := 0) rfl rfl rfl rfl ?_
  refine x_iload_n rfl rfl ?_
  refine x_iasN (j := 0) rfl rfl rfl (by decide) ?_
  refine x_aload_n rfl rfl ?_
  refine x_dup rfl rfl ?_
  refine x_getE (y := 4) (u := 0) rfl rfl rfl rfl ?_
  refine x_iconst rfl ?_
  refine x_iadd rfl ?_
  refine x_lit (b := 1) (by decide) ?_
  refine x_putI rfl rfl rfl rfl ?_
  refine x_vret rfl rfl ?_
  refine x_vret rfl rfl ?_
  refine x_iconst rfl ?_
  refine x_istore (ls' := [_, _, _, _, _]) rfl rfl rfl ?_
  refine x_iload rfl rfl ?_
  refine x_bipush rfl ?_
  refine x_icmp_ge rfl (fun c => ?_) (fun c => ?_)
  · exact absurd c (by decide)
  refine x_aload_n rfl rfl ?_
  refine x_getE (y := 7) (u := 0) rfl rfl rfl rfl ?_
  refine x_if_eq rfl (fun c => ?_) (fun c => ?_)
  rotate_left
  · exact absurd c (by decide)
  refine x_aload_n rfl rfl ?_
  refine x_callV (M' := mi51) (As := []) (bc1 := 0) (bs1 := 0) (bc2 := 0) (bs2 := 0) rfl rfl rfl rfl ok51 rfl rfl (by decide) rfl rfl rfl rfl rfl rfl ?_
  refine x_aload_n rfl rfl ?_
  refine x_callV (M' := mi48) (As := []) (bc1 := 0) (bs1 := 0) (bc2 := 0) (bs2 := 0) rfl rfl rfl rfl ok48 rfl rfl (by decide) rfl rfl rfl rfl rfl rfl ?_
  refine x_aload_n rfl rfl ?_
  refine x_getE (y := 5) (u := 0) rfl rfl rfl rfl ?_
  refine x_aload_n rfl rfl ?_
  refine x_getE (y := 4) (u := 1) rfl rfl rfl rfl ?_
  refine x_icmp_ge rfl (fun c => ?_) (fun c => ?_)
  · exact absurd c (by decide)
  refine x_aload_n rfl rfl ?_
  refine x_getR (u := .ref _) rfl rfl rfl rfl ?_
  refine x_aload_n rfl rfl ?_
  refine x_getE (y := 5) (u := 0) rfl rfl rfl rfl ?_
  refine x_ialE (j := 0) (u := 256) rfl rfl rfl (by decide) rfl ?_
  refine x_goto rfl ?_
  refine x_iret rfl rfl ?_
  refine x_istore_n (ls' := [_, _]) rfl rfl rfl ?_
  refine x_iload_n rfl rfl ?_
  refine x_sipush rfl ?_
  refine x_icmp_lt rfl (fun c => ?_) (fun c => ?_)
  rotate_left
  · exact absurd c (by decide)
  refine x_aload_n rfl rfl ?_
  refine x_callV (M' := mi49) (As := []) (bc1 := 0) (bs1 := 0) (bc2 := 0) (bs2 := 0) rfl rfl rfl rfl ok49 rfl rfl (by decide) rfl rfl rfl rfl rfl rfl ?_
  refine x_aload_n rfl rfl ?_
  refine x_aload_n rfl rfl ?_
  refine x_getE (y := 5) (u := 0) rfl rfl rfl rfl ?_
  refine x_aload_n rfl rfl ?_
  refine x_getE (y := 4) (u := 1) rfl rfl rfl rfl ?_
  refine x_icmp_ge rfl (fun c => ?_) (fun c => ?_)
  · exact absurd c (by decide)
  refine x_aload_n rfl rfl ?_
  refine x_getR (u := .ref _) rfl rfl rfl rfl ?_
  refine x_aload_n rfl rfl ?_
  refine x_getE (y := 5) (u := 0) rfl rfl rfl rfl ?_
  refine x_ialE (j := 0) (u := 0) rfl rfl rfl (by decide) rfl ?_
  refine x_goto rfl ?_
  refine x_putI rfl rfl rfl rfl ?_
  refine x_iconst rfl ?_
  refine x_zret rfl rfl (by first | exact Or.inl rfl | exact Or.inr rfl) ?_
  refine x_zret rfl rfl (by first | exact Or.inl rfl | exact Or.inr rfl) ?_
  refine x_if_ne rfl (fun c => ?_) (fun c => ?_)
  · exact absurd c (by decide)
  refine x_iconst rfl ?_
  refine x_zret rfl rfl (by first | exact Or.inl rfl | exact Or.inr rfl) ?_
  refine x_istore_n (ls' := [_, _, _]) rfl rfl rfl ?_
  refine x_aload_n rfl rfl ?_
  refine x_aload_n rfl rfl ?_
  refine x_getR (u := .ref _) rfl rfl rfl rfl ?_
  refine x_getE (y := 1) (u := 0) rfl rfl rfl rfl ?_
  refine x_putI rfl rfl rfl rfl ?_
  refine x_aload_n rfl rfl ?_
  refine x_iload_n rfl rfl ?_
  refine x_if_eq rfl (fun c => ?_) (fun c => ?_)
  rotate_left
  · exact absurd c (by decide)
  refine x_bipush rfl ?_
  refine x_callV (M' := mi145) (As := [_]) (bc1 := 0) (bs1 := 0) (bc2 := 0) (bs2 := 0) rfl rfl rfl rfl ok145 rfl rfl (by decide) rfl rfl rfl rfl rfl rfl ?_
  refine x_aload_n rfl rfl ?_
  refine x_iload_n rfl rfl ?_
  refine x_iconst rfl ?_
  refine x_min rfl rfl ?_
  refine x_lit (b := (-6)) (by decide) ?_
  refine x_putI rfl rfl rfl rfl ?_
  refine x_iload_n rfl rfl ?_
  refine x_if_ge rfl (fun c => ?_) (fun c => ?_)
  · exact absurd c (by decide)
  refine x_iload_n rfl rfl ?_
  refine x_bipush rfl ?_
  refine x_icmp_lt rfl (fun c => ?_) (fun c => ?_)
  · exact absurd c (by decide)
  refine x_aload_n rfl rfl ?_
  refine x_getR (u := .ref _) rfl rfl rfl rfl ?_
  refine x_iload_n rfl rfl ?_
  refine x_ineg rfl ?_
  refine x_lit (b := 6) (by decide) ?_
  refine x_iconst rfl ?_
  refine x_isub rfl ?_
  refine x_lit (b := 5) (by decide) ?_
  refine x_dup2 rfl rfl rfl ?_
  refine x_ialE (j := 5) (u := 0) rfl rfl rfl (by decide) rfl ?_
  refine x_iconst rfl ?_
  refine x_iadd rfl ?_
  refine x_lit (b := 1) (by decide) ?_
  refine x_iasN (j := 5) rfl rfl rfl (by decide) ?_
  refine x_iload_n rfl rfl ?_
  refine x_iret rfl rfl ?_
  refine x_iret rfl rfl ?_
  exact hP _ (Fm_up (Fm_up (Fm_up (Fm_up (Fm_up (Fm_up (Fm_up (Fm_up (Fm_up (Fm_up (Fm_up (Fm_up (Fm_up (Fm_up (Fm_up (Fm0) (by decide)) (by decide)) (by decide)) (by decide)) (by decide)) (by decide)) (by decide)) (by decide)) (by decide)) (by decide)) (by decide)) (by decide)) (by decide)) (by decide)) (by decide))
set_option maxRecDepth 20000 in
set_option maxHeartbeats 8000000 in
theorem cx_orders {d : Nat} {P : Post} (hP : PX P (-6)) : Ex (d + 11) mi119 0 (entL [.ref 0] 3) [] (LY ++ []) VIm ZL (vr ZR) 0 0 P := by
  refine x_aload_n rfl rfl ?_
  refine x_getR (u := .ref _) rfl rfl rfl rfl ?_
  refine x_aload_n rfl rfl ?_
  refine x_getR (u := .ref _) rfl rfl rfl rfl ?_
  refine x_aload_n rfl rfl ?_
  refine x_callV (M' := mi148) (As := []) (bc1 := 0) (bs1 := 0) (bc2 := 0) (bs2 := 0) rfl rfl rfl rfl ok148 rfl rfl (by decide) rfl rfl rfl rfl rfl rfl ?_
  refine x_aload_n rfl rfl ?_
  refine x_getE (y := 13) (u := 0) rfl rfl rfl rfl ?_
  refine x_istore_n (ls' := [_, _]) rfl rfl rfl ?_
  refine x_aload_n rfl rfl ?_
  refine x_iconst rfl ?_
  refine x_putI rfl rfl rfl rfl ?_
  refine x_iload_n rfl rfl ?_
  refine x_iret rfl rfl ?_
  refine x_iconst rfl ?_
  refine x_callV (M' := mi40) (As := [_, _, _]) (bc1 := 0) (bs1 := 0) (bc2 := 0) (bs2 := 0) rfl rfl rfl rfl ok40 rfl rfl (by decide) rfl rfl rfl rfl rfl rfl ?_
  refine x_aload_n rfl rfl ?_
  refine x_iload_n rfl rfl ?_
  refine x_putZ rfl rfl rfl rfl (by first | exact Or.inl rfl | exact Or.inr rfl) ?_
  refine x_aload_n rfl rfl ?_
  refine x_iconst rfl ?_
  refine x_putI rfl rfl rfl rfl ?_
  refine x_aload_n rfl rfl ?_
  refine x_iconst rfl ?_
  refine x_putI rfl rfl rfl rfl ?_
  refine x_aload_n rfl rfl ?_
  refine x_iconst rfl ?_
  refine x_putI rfl rfl rfl rfl ?_
  refine x_aload_n rfl rfl ?_
  refine x_getR (u := .ref _) rfl rfl rfl rfl ?_
  refine x_callV (M' := mi82) (As := []) (bc1 := 0) (bs1 := 0) (bc2 := 0) (bs2 := 0) rfl rfl rfl rfl ok82 rfl rfl (by decide) rfl rfl rfl rfl rfl rfl ?_
  refine x_aload_n rfl rfl ?_
  refine x_iconst rfl ?_
  refine x_putI rfl rfl rfl rfl ?_
  refine x_aload_n rfl rfl ?_
  refine x_iconst rfl ?_
  refine x_putI rfl rfl rfl rfl ?_
  refine x_vret rfl rfl ?_
  refine x_aload_n rfl rfl ?_
  refine x_aload_n rfl rfl ?_
  refine x_iload_n rfl rfl ?_
  refine x_aload_n rfl rfl ?_
  refine x_alen0 rfl rfl ?_
  refine x_lit (b := 400) (by decide) ?_
  refine x_sipush rfl ?_
  refine x_min rfl rfl ?_
  refine x_lit (b := 400) (by decide) ?_
  refine x_min rfl rfl ?_
  refine x_lit (b := 0) (by decide) ?_
  refine x_callV (M' := mi41) (As := [_, _]) (bc1 := 0) (bs1 := 0) (bc2 := 0) (bs2 := 0) rfl rfl rfl rfl ok41 rfl rfl (by decide) rfl rfl rfl rfl rfl rfl ?_
  refine x_aload_n rfl rfl ?_
  refine x_iconst rfl ?_
  refine x_putI rfl rfl rfl rfl ?_
  refine x_iconst rfl ?_
  refine x_istore_n (ls' := [_, _, _, _, _]) rfl rfl rfl ?_
  refine x_iload_n rfl rfl ?_
  refine x_iload_n rfl rfl ?_
  refine x_icmp_ge rfl (fun c => ?_) (fun c => ?_)
  rotate_left
  · exact absurd c (by decide)
  refine x_aload_n rfl rfl ?_
  refine x_sipush rfl ?_
  refine x_iload_n rfl rfl ?_
  refine x_callV (M' := mi42) (As := [_, _]) (bc1 := 0) (bs1 := 0) (bc2 := 0) (bs2 := 0) rfl rfl rfl rfl ok42 rfl rfl (by decide) rfl rfl rfl rfl rfl rfl ?_
  refine x_aload_n rfl rfl ?_
  refine x_getE (y := 4) (u := 0) rfl rfl rfl rfl ?_
  refine x_aload_n rfl rfl ?_
  refine x_getR (u := .ref _) rfl rfl rfl rfl ?_
  refine x_alen0 rfl rfl ?_
  refine x_lit (b := 401) (by decide) ?_
  refine x_icmp_ge rfl (fun c => ?_) (fun c => ?_)
  · exact absurd c (by decide)
  refine x_aload_n rfl rfl ?_
  refine x_getR (u := .ref _) rfl rfl rfl rfl ?_
  refine x_aload_n rfl rfl ?_
  refine x_getE (y := 4) (u := 0) rfl rfl rfl rfl ?_
  refine x_iload_n rfl rfl ?_
  refine x_iasN (j := 0) rfl rfl rfl (by decide) ?_
  refine x_aload_n rfl rfl ?_
  refine x_getR (u := .ref _) rfl rfl rfl rfl ?_
  refine x_aload_n rfl rfl ?_
  refine x_getE (y := 4) (u := 0) rfl rfl rfl rfl ?_
  refine x_iload_n rfl rfl ?_
  refine x_iasN (j := 0) rfl rfl rfl (by decide) ?_
  refine x_aload_n rfl rfl ?_
  refine x_dup rfl rfl ?_
  refine x_getE (y := 4) (u := 0) rfl rfl rfl rfl ?_
  refine x_iconst rfl ?_
  refine x_iadd rfl ?_
  refine x_lit (b := 1) (by decide) ?_
  refine x_putI rfl rfl rfl rfl ?_
  refine x_vret rfl rfl ?_
  refine x_vret rfl rfl ?_
  refine x_iconst rfl ?_
  refine x_istore (ls' := [_, _, _, _, _]) rfl rfl rfl ?_
  refine x_iload rfl rfl ?_
  refine x_bipush rfl ?_
  refine x_icmp_ge rfl (fun c => ?_) (fun c => ?_)
  · exact absurd c (by decide)
  refine x_aload_n rfl rfl ?_
  refine x_getE (y := 7) (u := 1) rfl rfl rfl rfl ?_
  refine x_if_eq rfl (fun c => ?_) (fun c => ?_)
  · exact absurd c (by decide)
  refine x_aload_n rfl rfl ?_
  refine x_callV (M' := mi52) (As := []) (bc1 := 0) (bs1 := 0) (bc2 := 0) (bs2 := 0) rfl rfl rfl rfl ok52 rfl rfl (by decide) rfl rfl rfl rfl rfl rfl ?_
  refine x_aload_n rfl rfl ?_
  refine x_callV (M' := mi48) (As := []) (bc1 := 0) (bs1 := 0) (bc2 := 0) (bs2 := 0) rfl rfl rfl rfl ok48 rfl rfl (by decide) rfl rfl rfl rfl rfl rfl ?_
  refine x_aload_n rfl rfl ?_
  refine x_getE (y := 5) (u := 0) rfl rfl rfl rfl ?_
  refine x_aload_n rfl rfl ?_
  refine x_getE (y := 4) (u := 1) rfl rfl rfl rfl ?_
  refine x_icmp_ge rfl (fun c => ?_) (fun c => ?_)
  · exact absurd c (by decide)
  refine x_aload_n rfl rfl ?_
  refine x_getR (u := .ref _) rfl rfl rfl rfl ?_
  refine x_aload_n rfl rfl ?_
  refine x_getE (y := 5) (u := 0) rfl rfl rfl rfl ?_
  refine x_ialE (j := 0) (u := 256) rfl rfl rfl (by decide) rfl ?_
  refine x_goto rfl ?_
  refine x_iret rfl rfl ?_
  refine x_istore_n (ls' := [_, _]) rfl rfl rfl ?_
  refine x_iload_n rfl rfl ?_
  refine x_sipush rfl ?_
  refine x_icmp_lt rfl (fun c => ?_) (fun c => ?_)
  rotate_left
  · exact absurd c (by decide)
  refine x_aload_n rfl rfl ?_
  refine x_callV (M' := mi49) (As := []) (bc1 := 0) (bs1 := 0) (bc2 := 0) (bs2 := 0) rfl rfl rfl rfl ok49 rfl rfl (by decide) rfl rfl rfl rfl rfl rfl ?_
  refine x_aload_n rfl rfl ?_
  refine x_aload_n rfl rfl ?_
  refine x_getE (y := 5) (u := 0) rfl rfl rfl rfl ?_
  refine x_aload_n rfl rfl ?_
  refine x_getE (y := 4) (u := 1) rfl rfl rfl rfl ?_
  refine x_icmp_ge rfl (fun c => ?_) (fun c => ?_)
  · exact absurd c (by decide)
  refine x_aload_n rfl rfl ?_
  refine x_getR (u := .ref _) rfl rfl rfl rfl ?_
  refine x_aload_n rfl rfl ?_
  refine x_getE (y := 5) (u := 0) rfl rfl rfl rfl ?_
  refine x_ialE (j := 0) (u := 0) rfl rfl rfl (by decide) rfl ?_
  refine x_goto rfl ?_
  refine x_putI rfl rfl rfl rfl ?_
  refine x_iconst rfl ?_
  refine x_zret rfl rfl (by first | exact Or.inl rfl | exact Or.inr rfl) ?_
  refine x_zret rfl rfl (by first | exact Or.inl rfl | exact Or.inr rfl) ?_
  refine x_if_eq rfl (fun c => ?_) (fun c => ?_)
  rotate_left
  · exact absurd c (by decide)
  refine x_iconst rfl ?_
  refine x_zret rfl rfl (by first | exact Or.inl rfl | exact Or.inr rfl) ?_
  refine x_istore_n (ls' := [_, _, _]) rfl rfl rfl ?_
  refine x_aload_n rfl rfl ?_
  refine x_aload_n rfl rfl ?_
  refine x_getR (u := .ref _) rfl rfl rfl rfl ?_
  refine x_getE (y := 1) (u := 0) rfl rfl rfl rfl ?_
  refine x_putI rfl rfl rfl rfl ?_
  refine x_aload_n rfl rfl ?_
  refine x_iconst rfl ?_
  refine x_putI rfl rfl rfl rfl ?_
  refine x_iload_n rfl rfl ?_
  refine x_if_ne rfl (fun c => ?_) (fun c => ?_)
  · exact absurd c (by decide)
  refine x_aload_n rfl rfl ?_
  refine x_bipush rfl ?_
  refine x_callV (M' := mi145) (As := [_]) (bc1 := 0) (bs1 := 0) (bc2 := 0) (bs2 := 0) rfl rfl rfl rfl ok145 rfl rfl (by decide) rfl rfl rfl rfl rfl rfl ?_
  refine x_aload_n rfl rfl ?_
  refine x_iload_n rfl rfl ?_
  refine x_iconst rfl ?_
  refine x_min rfl rfl ?_
  refine x_lit (b := (-6)) (by decide) ?_
  refine x_putI rfl rfl rfl rfl ?_
  refine x_iload_n rfl rfl ?_
  refine x_if_ge rfl (fun c => ?_) (fun c => ?_)
  · exact absurd c (by decide)
  refine x_iload_n rfl rfl ?_
  refine x_bipush rfl ?_
  refine x_icmp_lt rfl (fun c => ?_) (fun c => ?_)
  · exact absurd c (by decide)
  refine x_aload_n rfl rfl ?_
  refine x_getR (u := .ref _) rfl rfl rfl rfl ?_
  refine x_iload_n rfl rfl ?_
  refine x_ineg rfl ?_
  refine x_lit (b := 6) (by decide) ?_
  refine x_iconst rfl ?_
  refine x_isub rfl ?_
  refine x_lit (b := 5) (by decide) ?_
  refine x_dup2 rfl rfl rfl ?_
  refine x_ialE (j := 5) (u := 0) rfl rfl rfl (by decide) rfl ?_
  refine x_iconst rfl ?_
  refine x_iadd rfl ?_
  refine x_lit (b := 1) (by decide) ?_
  refine x_iasN (j := 5) rfl rfl rfl (by decide) ?_
  refine x_iload_n rfl rfl ?_
  refine x_iret rfl rfl ?_
  refine x_iret rfl rfl ?_
  exact hP _ (Fm_up (Fm_up (Fm_up (Fm_up (Fm_up (Fm_up (Fm_up (Fm_up (Fm_up (Fm_up (Fm_up (Fm_up (Fm_up (Fm_up (Fm_up (Fm_up (Fm0) (by decide)) (by decide)) (by decide)) (by decide)) (by decide)) (by decide)) (by decide)) (by decide)) (by decide)) (by decide)) (by decide)) (by decide)) (by decide)) (by decide)) (by decide)) (by decide))
set_option maxRecDepth 20000 in
set_option maxHeartbeats 8000000 in
theorem cx_pass {d : Nat} {P : Post} (hP : PX P 1) : Ex (d + 2) mi127 0 (entL [.ref 0] 1) [] (LY ++ []) VIm ZL (vr ZR) 0 0 P := by
  refine x_aload_n rfl rfl ?_
  refine x_aload_n rfl rfl ?_
  refine x_getR (u := .ref _) rfl rfl rfl rfl ?_
  refine x_callV (M' := mi4) (As := []) (bc1 := 0) (bs1 := 0) (bc2 := 0) (bs2 := 0) rfl rfl rfl rfl ok4 rfl rfl (by decide) rfl rfl rfl rfl rfl rfl ?_
  refine x_aload_n rfl rfl ?_
  refine x_getR (u := .ref _) rfl rfl rfl rfl ?_
  refine x_getR (u := .ref _) rfl rfl rfl rfl ?_
  refine x_iconst rfl ?_
  refine x_ialE (j := 0) (u := 0) rfl rfl rfl (by decide) rfl ?_
  refine x_sipush rfl ?_
  refine x_icmp_lt rfl (fun c => ?_) (fun c => ?_)
  rotate_left
  · exact absurd c (by decide)
  refine x_aload_n rfl rfl ?_
  refine x_iconst rfl ?_
  refine x_iconst rfl ?_
  refine x_callV (M' := mi10) (As := [_, _]) (bc1 := 0) (bs1 := 0) (bc2 := 0) (bs2 := 0) rfl rfl rfl rfl ok10 rfl rfl (by decide) rfl rfl rfl rfl rfl rfl ?_
  refine x_aload_n rfl rfl ?_
  refine x_getE (y := 2) (u := 0) rfl rfl rfl rfl ?_
  refine x_bipush rfl ?_
  refine x_icmp_lt rfl (fun c => ?_) (fun c => ?_)
  rotate_left
  · exact absurd c (by decide)
  refine x_aload_n rfl rfl ?_
  refine x_getR (u := .ref _) rfl rfl rfl rfl ?_
  refine x_aload_n rfl rfl ?_
  refine x_getE (y := 2) (u := 0) rfl rfl rfl rfl ?_
  refine x_iload_n rfl rfl ?_
  refine x_iconst rfl ?_
  refine x_imul rfl ?_
  refine x_lit (b := 0) (by decide) ?_
  refine x_iload_n rfl rfl ?_
  refine x_iadd rfl ?_
  refine x_lit (b := 3) (by decide) ?_
  refine x_iasN (j := 0) rfl rfl rfl (by decide) ?_
  refine x_aload_n rfl rfl ?_
  refine x_dup rfl rfl ?_
  refine x_getE (y := 2) (u := 0) rfl rfl rfl rfl ?_
  refine x_iconst rfl ?_
  refine x_iadd rfl ?_
  refine x_lit (b := 1) (by decide) ?_
  refine x_putI rfl rfl rfl rfl ?_
  refine x_vret rfl rfl ?_
  refine x_aload_n rfl rfl ?_
  refine x_getR (u := .ref _) rfl rfl rfl rfl ?_
  refine x_getR (u := .ref _) rfl rfl rfl rfl ?_
  refine x_iconst rfl ?_
  refine x_dup2 rfl rfl rfl ?_
  refine x_ialE (j := 0) (u := 0) rfl rfl rfl (by decide) rfl ?_
  refine x_iconst rfl ?_
  refine x_iadd rfl ?_
  refine x_lit (b := 1) (by decide) ?_
  refine x_iasN (j := 0) rfl rfl rfl (by decide) ?_
  refine x_aload_n rfl rfl ?_
  refine x_getR (u := .ref _) rfl rfl rfl rfl ?_
  refine x_getR (u := .ref _) rfl rfl rfl rfl ?_
  refine x_iconst rfl ?_
  refine x_ialE (j := 0) (u := 1) rfl rfl rfl (by decide) rfl ?_
  refine x_iret rfl rfl ?_
  refine x_callV (M' := mi145) (As := [_]) (bc1 := 0) (bs1 := 0) (bc2 := 0) (bs2 := 0) rfl rfl rfl rfl ok145 rfl rfl (by decide) rfl rfl rfl rfl rfl rfl ?_
  refine x_aload_n rfl rfl ?_
  refine x_iload_n rfl rfl ?_
  refine x_iconst rfl ?_
  refine x_min rfl rfl ?_
  refine x_lit (b := 0) (by decide) ?_
  refine x_putI rfl rfl rfl rfl ?_
  refine x_iload_n rfl rfl ?_
  refine x_if_ge rfl (fun c => ?_) (fun c => ?_)
  rotate_left
  · exact absurd c (by decide)
  refine x_iload_n rfl rfl ?_
  refine x_iret rfl rfl ?_
  refine x_iret rfl rfl ?_
  exact hP _ (Fm_up (Fm_up (Fm_up (Fm_up (Fm0) (by decide)) (by decide)) (by decide)) (by decide))
set_option maxRecDepth 20000 in
set_option maxHeartbeats 8000000 in
theorem cx_undo {d : Nat} {P : Post} (hP : PX P (-3)) : Ex (d + 3) mi128 0 (entL [.ref 0] 1) [] (LY ++ []) VIm ZL (vr ZR) 0 0 P := by
  refine x_aload_n rfl rfl ?_
  refine x_aload_n rfl rfl ?_
  refine x_getR (u := .ref _) rfl rfl rfl rfl ?_
  refine x_callV (M' := mi5) (As := []) (bc1 := 0) (bs1 := 0) (bc2 := 0) (bs2 := 0) rfl rfl rfl rfl ok5 rfl rfl (by decide) rfl rfl rfl rfl rfl rfl ?_
  refine x_aload_n rfl rfl ?_
  refine x_getE (y := 2) (u := 0) rfl rfl rfl rfl ?_
  refine x_if_le rfl (fun c => ?_) (fun c => ?_)
  rotate_left
  · exact absurd c (by decide)
  refine x_bipush rfl ?_
  refine x_iret rfl rfl ?_
  refine x_callV (M' := mi145) (As := [_]) (bc1 := 0) (bs1 := 0) (bc2 := 0) (bs2 := 0) rfl rfl rfl rfl ok145 rfl rfl (by decide) rfl rfl rfl rfl rfl rfl ?_
  refine x_aload_n rfl rfl ?_
  refine x_iload_n rfl rfl ?_
  refine x_iconst rfl ?_
  refine x_min rfl rfl ?_
  refine x_lit (b := (-3)) (by decide) ?_
  refine x_putI rfl rfl rfl rfl ?_
  refine x_iload_n rfl rfl ?_
  refine x_if_ge rfl (fun c => ?_) (fun c => ?_)
  · exact absurd c (by decide)
  refine x_iload_n rfl rfl ?_
  refine x_bipush rfl ?_
  refine x_icmp_lt rfl (fun c => ?_) (fun c => ?_)
  · exact absurd c (by decide)
  refine x_aload_n rfl rfl ?_
  refine x_getR (u := .ref _) rfl rfl rfl rfl ?_
  refine x_iload_n rfl rfl ?_
  refine x_ineg rfl ?_
  refine x_lit (b := 3) (by decide) ?_
  refine x_iconst rfl ?_
  refine x_isub rfl ?_
  refine x_lit (b := 2) (by decide) ?_
  refine x_dup2 rfl rfl rfl ?_
  refine x_ialE (j := 2) (u := 0) rfl rfl rfl (by decide) rfl ?_
  refine x_iconst rfl ?_
  refine x_iadd rfl ?_
  refine x_lit (b := 1) (by decide) ?_
  refine x_iasN (j := 2) rfl rfl rfl (by decide) ?_
  refine x_iload_n rfl rfl ?_
  refine x_iret rfl rfl ?_
  refine x_iret rfl rfl ?_
  exact hP _ (Fm_up (Fm_up (Fm0) (by decide)) (by decide))
set_option maxRecDepth 20000 in
set_option maxHeartbeats 8000000 in
theorem cm_law {d : Nat} {P : Post} {VI : VIT} (hF : Fm VI) (hP : PM P (-6)) : Ex (d + 13) mi213 0 (entL [.ref 74] 1) [] (LY ++ []) VI ZL (vr ZR) 0 0 P := by
  refine x_aload_n rfl rfl ?_
  refine x_getR (u := .ref _) rfl rfl rfl rfl ?_
  refine x_bipush rfl ?_
  refine x_ialE (j := 96) (u := 0) rfl rfl rfl (by decide) (hF.at (by decide) rfl : VI 76 96 = 0) ?_
  refine x_bipush rfl ?_
  refine x_icmp_ne rfl (fun c => ?_) (fun c => ?_)
  rotate_left
  · exact absurd c (by decide)
  refine x_aload_n rfl rfl ?_
  refine x_iconst rfl ?_
  refine x_callV (M' := mi211) (As := [_]) (bc1 := 0) (bs1 := 0) (bc2 := 0) (bs2 := 0) rfl rfl rfl rfl ok211 rfl rfl (by decide) rfl rfl rfl rfl rfl rfl ?_
  refine x_aload_n rfl rfl ?_
  refine x_iload_n rfl rfl ?_
  refine x_putZ rfl rfl rfl rfl (by first | exact Or.inl rfl | exact Or.inr rfl) ?_
  refine x_aload_n rfl rfl ?_
  refine x_iload_n rfl rfl ?_
  refine x_if_eq rfl (fun c => ?_) (fun c => ?_)
  rotate_left
  · exact absurd c (by decide)
  refine x_bipush rfl ?_
  refine x_putI rfl rfl rfl rfl ?_
  refine x_aload_n rfl rfl ?_
  refine x_iload_n rfl rfl ?_
  refine x_if_eq rfl (fun c => ?_) (fun c => ?_)
  rotate_left
  · exact absurd c (by decide)
  refine x_bipush rfl ?_
  refine x_putI rfl rfl rfl rfl ?_
  refine x_aload_n rfl rfl ?_
  refine x_callV (M' := mi210) (As := []) (bc1 := 0) (bs1 := 0) (bc2 := 0) (bs2 := 0) rfl rfl rfl rfl ok210 rfl rfl (by decide) rfl rfl rfl rfl rfl rfl ?_
  refine x_aload_n rfl rfl ?_
  refine x_aload_n rfl rfl ?_
  refine x_getE (y := 13) (u := 0) rfl rfl rfl (hF.at (by decide) rfl : VI 74 13 = 0) ?_
  refine x_callV (M' := mi193) (As := [_]) (bc1 := 0) (bs1 := 0) (bc2 := 0) (bs2 := 0) rfl rfl rfl rfl ok193 rfl rfl (by decide) rfl rfl rfl rfl rfl rfl ?_
  refine x_aload_n rfl rfl ?_
  refine x_iconst rfl ?_
  refine x_putI rfl rfl rfl rfl ?_
  refine x_iconst rfl ?_
  refine x_istore_n (ls' := [_, _, _, _, _, _]) rfl rfl rfl ?_
  refine x_iload_n rfl rfl ?_
  refine x_iload_n rfl rfl ?_
  refine x_icmp_ge rfl (fun c => ?_) (fun c => ?_)
  rotate_left
  · exact absurd c (by decide)
  refine x_aload_n rfl rfl ?_
  refine x_getR (u := .ref _) rfl rfl rfl rfl ?_
  refine x_aload_n rfl rfl ?_
  refine x_getE (y := 18) (u := 0) rfl rfl rfl rfl ?_
  refine x_iload_n rfl rfl ?_
  refine x_iasN (j := 0) rfl rfl rfl (by decide) ?_
  refine x_aload_n rfl rfl ?_
  refine x_getR (u := .ref _) rfl rfl rfl rfl ?_
  refine x_aload_n rfl rfl ?_
  refine x_getE (y := 18) (u := 0) rfl rfl rfl rfl ?_
  refine x_iconst rfl ?_
  refine x_iasN (j := 0) rfl rfl rfl (by decide) ?_
  refine x_aload_n rfl rfl ?_
  refine x_getR (u := .ref _) rfl rfl rfl rfl ?_
  refine x_aload_n rfl rfl ?_
  refine x_getE (y := 18) (u := 0) rfl rfl rfl rfl ?_
  refine x_iconst rfl ?_
  refine x_iasN (j := 0) rfl rfl rfl (by decide) ?_
  refine x_vret rfl rfl ?_
  refine x_aload_n rfl rfl ?_
  refine x_iconst rfl ?_
  refine x_putI rfl rfl rfl rfl ?_
  refine x_aload_n rfl rfl ?_
  refine x_iconst rfl ?_
  refine x_putI rfl rfl rfl rfl ?_
  refine x_aload_n rfl rfl ?_
  refine x_iconst rfl ?_
  refine x_putI rfl rfl rfl rfl ?_
  refine x_aload_n rfl rfl ?_
  refine x_iconst rfl ?_
  refine x_putI rfl rfl rfl rfl ?_
  refine x_aload_n rfl rfl ?_
  refine x_callV (M' := mi203) (As := []) (bc1 := 0) (bs1 := 0) (bc2 := 0) (bs2 := 0) rfl rfl rfl rfl ok203 rfl rfl (by decide) rfl rfl rfl rfl rfl rfl ?_
  refine x_aload_n rfl rfl ?_
  refine x_getE (y := 10) (u := 0) rfl rfl rfl rfl ?_
  refine x_if_eq rfl (fun c => ?_) (fun c => ?_)
  rotate_left
  · exact absurd c (by decide)
  refine x_aload_n rfl rfl ?_
  refine x_callV (M' := mi201) (As := []) (bc1 := 0) (bs1 := 0) (bc2 := 0) (bs2 := 0) rfl rfl rfl rfl ok201 rfl rfl (by decide) rfl rfl rfl rfl rfl rfl ?_
  refine x_aload_n rfl rfl ?_
  refine x_iconst rfl ?_
  refine x_callV (M' := mi196) (As := [_]) (bc1 := 0) (bs1 := 0) (bc2 := 0) (bs2 := 0) rfl rfl rfl rfl ok196 rfl rfl (by decide) rfl rfl rfl rfl rfl rfl ?_
  refine x_aload_n rfl rfl ?_
  refine x_callV (M' := mi194) (As := []) (bc1 := 0) (bs1 := 0) (bc2 := 0) (bs2 := 0) rfl rfl rfl rfl ok194 rfl rfl (by decide) rfl rfl rfl rfl rfl rfl ?_
  refine x_aload_n rfl rfl ?_
  refine x_getE (y := 21) (u := (-1)) rfl rfl rfl rfl ?_
  refine x_iconst rfl ?_
  refine x_icmp_ne rfl (fun c => ?_) (fun c => ?_)
  · exact absurd c (by decide)
  refine x_iconst rfl ?_
  refine x_goto rfl ?_
  refine x_zret rfl rfl (by first | exact Or.inl rfl | exact Or.inr rfl) ?_
  refine x_if_eq rfl (fun c => ?_) (fun c => ?_)
  · exact absurd c (by decide)
  refine x_aload_n rfl rfl ?_
  refine x_getR (u := .ref _) rfl rfl rfl rfl ?_
  refine x_aload_n rfl rfl ?_
  refine x_getE (y := 19) (u := 0) rfl rfl rfl rfl ?_
  refine x_ialE (j := 0) (u := 0) rfl rfl rfl (by decide) rfl ?_
  refine x_iload_n rfl rfl ?_
  refine x_icmp_ne rfl (fun c => ?_) (fun c => ?_)
  rotate_left
  · exact absurd c (by decide)
  refine x_iconst rfl ?_
  refine x_istore_n (ls' := [_, _, _]) rfl rfl rfl ?_
  refine x_iload_n rfl rfl ?_
  refine x_if_eq rfl (fun c => ?_) (fun c => ?_)
  rotate_left
  · exact absurd c (by decide)
  refine x_iload_n rfl rfl ?_
  refine x_zret rfl rfl (by first | exact Or.inl rfl | exact Or.inr rfl) ?_
  refine x_if_ne rfl (fun c => ?_) (fun c => ?_)
  · exact absurd c (by decide)
  refine x_aload_n rfl rfl ?_
  refine x_iconst rfl ?_
  refine x_callV (M' := mi196) (As := [_]) (bc1 := 0) (bs1 := 0) (bc2 := 0) (bs2 := 0) rfl rfl rfl rfl ok196 rfl rfl (by decide) rfl rfl rfl rfl rfl rfl ?_
  refine x_aload_n rfl rfl ?_
  refine x_callV (M' := mi194) (As := []) (bc1 := 0) (bs1 := 0) (bc2 := 0) (bs2 := 0) rfl rfl rfl rfl ok194 rfl rfl (by decide) rfl rfl rfl rfl rfl rfl ?_
  refine x_aload_n rfl rfl ?_
  refine x_getE (y := 21) (u := (-1)) rfl rfl rfl rfl ?_
  refine x_iconst rfl ?_
  refine x_icmp_ne rfl (fun c => ?_) (fun c => ?_)
  · exact absurd c (by decide)
  refine x_iconst rfl ?_
  refine x_goto rfl ?_
  refine x_zret rfl rfl (by first | exact Or.inl rfl | exact Or.inr rfl) ?_
  refine x_if_eq rfl (fun c => ?_) (fun c => ?_)
  · exact absurd c (by decide)
  refine x_aload_n rfl rfl ?_
  refine x_getR (u := .ref _) rfl rfl rfl rfl ?_
  refine x_aload_n rfl rfl ?_
  refine x_getE (y := 19) (u := 0) rfl rfl rfl rfl ?_
  refine x_ialE (j := 0) (u := 0) rfl rfl rfl (by decide) rfl ?_
  refine x_iload_n rfl rfl ?_
  refine x_icmp_ne rfl (fun c => ?_) (fun c => ?_)
  rotate_left
  · exact absurd c (by decide)
  refine x_iconst rfl ?_
  refine x_istore_n (ls' := [_, _, _]) rfl rfl rfl ?_
  refine x_iload_n rfl rfl ?_
  refine x_if_eq rfl (fun c => ?_) (fun c => ?_)
  rotate_left
  · exact absurd c (by decide)
  refine x_iload_n rfl rfl ?_
  refine x_zret rfl rfl (by first | exact Or.inl rfl | exact Or.inr rfl) ?_
  refine x_if_eq rfl (fun c => ?_) (fun c => ?_)
  rotate_left
  · exact absurd c (by decide)
  refine x_aload_n rfl rfl ?_
  refine x_iconst rfl ?_
  refine x_callV (M' := mi197) (As := [_]) (bc1 := 0) (bs1 := 0) (bc2 := 0) (bs2 := 0) rfl rfl rfl rfl ok197 rfl rfl (by decide) rfl rfl rfl rfl rfl rfl ?_
  refine x_aload_n rfl rfl ?_
  refine x_iload_n rfl rfl ?_
  refine x_callV (M' := mi196) (As := [_]) (bc1 := 0) (bs1 := 0) (bc2 := 0) (bs2 := 0) rfl rfl rfl rfl ok196 rfl rfl (by decide) rfl rfl rfl rfl rfl rfl ?_
  refine x_aload_n rfl rfl ?_
  refine x_callV (M' := mi194) (As := []) (bc1 := 0) (bs1 := 0) (bc2 := 0) (bs2 := 0) rfl rfl rfl rfl ok194 rfl rfl (by decide) rfl rfl rfl rfl rfl rfl ?_
  refine x_aload_n rfl rfl ?_
  refine x_getE (y := 21) (u := (-1)) rfl rfl rfl rfl ?_
  refine x_iconst rfl ?_
  refine x_icmp_ne rfl (fun c => ?_) (fun c => ?_)
  · exact absurd c (by decide)
  refine x_iconst rfl ?_
  refine x_goto rfl ?_
  refine x_zret rfl rfl (by first | exact Or.inl rfl | exact Or.inr rfl) ?_
  refine x_if_eq rfl (fun c => ?_) (fun c => ?_)
  · exact absurd c (by decide)
  refine x_aload_n rfl rfl ?_
  refine x_getR (u := .ref _) rfl rfl rfl rfl ?_
  refine x_aload_n rfl rfl ?_
  refine x_getE (y := 19) (u := 0) rfl rfl rfl rfl ?_
  refine x_ialE (j := 0) (u := 0) rfl rfl rfl (by decide) rfl ?_
  refine x_iload_n rfl rfl ?_
  refine x_icmp_ne rfl (fun c => ?_) (fun c => ?_)
  rotate_left
  · exact absurd c (by decide)
  refine x_iconst rfl ?_
  refine x_istore_n (ls' := [_, _, _]) rfl rfl rfl ?_
  refine x_iload_n rfl rfl ?_
  refine x_if_eq rfl (fun c => ?_) (fun c => ?_)
  rotate_left
  · exact absurd c (by decide)
  refine x_iload_n rfl rfl ?_
  refine x_zret rfl rfl (by first | exact Or.inl rfl | exact Or.inr rfl) ?_
  refine x_if_ne rfl (fun c => ?_) (fun c => ?_)
  · exact absurd c (by decide)
  refine x_aload_n rfl rfl ?_
  refine x_callV (M' := mi195) (As := []) (bc1 := 0) (bs1 := 0) (bc2 := 0) (bs2 := 0) rfl rfl rfl rfl ok195 rfl rfl (by decide) rfl rfl rfl rfl rfl rfl ?_
  refine x_aload_n rfl rfl ?_
  refine x_callV (M' := mi194) (As := []) (bc1 := 0) (bs1 := 0) (bc2 := 0) (bs2 := 0) rfl rfl rfl rfl ok194 rfl rfl (by decide) rfl rfl rfl rfl rfl rfl ?_
  refine x_aload_n rfl rfl ?_
  refine x_getE (y := 21) (u := (-1)) rfl rfl rfl rfl ?_
  refine x_iconst rfl ?_
  refine x_icmp_ne rfl (fun c => ?_) (fun c => ?_)
  · exact absurd c (by decide)
  refine x_iconst rfl ?_
  refine x_goto rfl ?_
  refine x_zret rfl rfl (by first | exact Or.inl rfl | exact Or.inr rfl) ?_
  refine x_if_eq rfl (fun c => ?_) (fun c => ?_)
  · exact absurd c (by decide)
  refine x_aload_n rfl rfl ?_
  refine x_aload_n rfl rfl ?_
  refine x_getR (u := .ref _) rfl rfl rfl rfl ?_
  refine x_aload_n rfl rfl ?_
  refine x_getE (y := 19) (u := 0) rfl rfl rfl rfl ?_
  refine x_ialE (j := 0) (u := 0) rfl rfl rfl (by decide) rfl ?_
  refine x_putI rfl rfl rfl rfl ?_
  refine x_vret rfl rfl ?_
  refine x_vret rfl rfl ?_
  refine x_aload_n rfl rfl ?_
  refine x_iconst rfl ?_
  refine x_callV (M' := mi196) (As := [_]) (bc1 := 0) (bs1 := 0) (bc2 := 0) (bs2 := 0) rfl rfl rfl rfl ok196 rfl rfl (by decide) rfl rfl rfl rfl rfl rfl ?_
  refine x_aload_n rfl rfl ?_
  refine x_callV (M' := mi194) (As := []) (bc1 := 0) (bs1 := 0) (bc2 := 0) (bs2 := 0) rfl rfl rfl rfl ok194 rfl rfl (by decide) rfl rfl rfl rfl rfl rfl ?_
  refine x_aload_n rfl rfl ?_
  refine x_getE (y := 21) (u := 0) rfl rfl rfl rfl ?_
  refine x_iconst rfl ?_
  refine x_icmp_ne rfl (fun c => ?_) (fun c => ?_)
  rotate_left
  · exact absurd c (by decide)
  refine x_iconst rfl ?_
  refine x_zret rfl rfl (by first | exact Or.inl rfl | exact Or.inr rfl) ?_
  refine x_if_eq rfl (fun c => ?_) (fun c => ?_)
  rotate_left
  · exact absurd c (by decide)
  refine x_iconst rfl ?_
  refine x_istore_n (ls' := [_, _, _]) rfl rfl rfl ?_
  refine x_iload_n rfl rfl ?_
  refine x_if_eq rfl (fun c => ?_) (fun c => ?_)
  rotate_left
  · exact absurd c (by decide)
  refine x_iload_n rfl rfl ?_
  refine x_zret rfl rfl (by first | exact Or.inl rfl | exact Or.inr rfl) ?_
  refine x_if_eq rfl (fun c => ?_) (fun c => ?_)
  rotate_left
  · exact absurd c (by decide)
  refine x_vret rfl rfl ?_
  refine x_vret rfl rfl ?_
  refine x_iconst rfl ?_
  refine x_istore_n (ls' := [_, _]) rfl rfl rfl ?_
  refine x_aload_n rfl rfl ?_
  refine x_bipush rfl ?_
  refine x_callS (M' := mi199) (As := [_]) (bc1 := 0) (bs1 := 0) (bc2 := 0) (bs2 := 0) rfl rfl rfl rfl ok199 rfl rfl rfl rfl rfl rfl ?_
  refine x_bipush rfl ?_
  refine x_iload_n rfl rfl ?_
  refine x_iadd rfl ?_
  refine x_lit (b := 159) (by decide) ?_
  refine x_iret rfl rfl ?_
  refine x_callV (M' := mi196) (As := [_]) (bc1 := 0) (bs1 := 0) (bc2 := 0) (bs2 := 0) rfl rfl rfl rfl ok196 rfl rfl (by decide) rfl rfl rfl rfl rfl rfl ?_
  refine x_aload_n rfl rfl ?_
  refine x_callV (M' := mi194) (As := []) (bc1 := 0) (bs1 := 0) (bc2 := 0) (bs2 := 0) rfl rfl rfl rfl ok194 rfl rfl (by decide) rfl rfl rfl rfl rfl rfl ?_
  refine x_aload_n rfl rfl ?_
  refine x_getE (y := 21) (u := 0) rfl rfl rfl rfl ?_
  refine x_iconst rfl ?_
  refine x_icmp_ne rfl (fun c => ?_) (fun c => ?_)
  rotate_left
  · exact absurd c (by decide)
  refine x_iconst rfl ?_
  refine x_zret rfl rfl (by first | exact Or.inl rfl | exact Or.inr rfl) ?_
  refine x_if_eq rfl (fun c => ?_) (fun c => ?_)
  rotate_left
  · exact absurd c (by decide)
  refine x_iconst rfl ?_
  refine x_istore_n (ls' := [_, _, _]) rfl rfl rfl ?_
  refine x_iload_n rfl rfl ?_
  refine x_if_eq rfl (fun c => ?_) (fun c => ?_)
  rotate_left
  · exact absurd c (by decide)
  refine x_iload_n rfl rfl ?_
  refine x_zret rfl rfl (by first | exact Or.inl rfl | exact Or.inr rfl) ?_
  refine x_if_eq rfl (fun c => ?_) (fun c => ?_)
  rotate_left
  · exact absurd c (by decide)
  refine x_aload_n rfl rfl ?_
  refine x_callV (M' := mi194) (As := []) (bc1 := 0) (bs1 := 0) (bc2 := 0) (bs2 := 0) rfl rfl rfl rfl ok194 rfl rfl (by decide) rfl rfl rfl rfl rfl rfl ?_
  refine x_aload_n rfl rfl ?_
  refine x_getE (y := 21) (u := 0) rfl rfl rfl rfl ?_
  refine x_iconst rfl ?_
  refine x_icmp_ne rfl (fun c => ?_) (fun c => ?_)
  rotate_left
  · exact absurd c (by decide)
  refine x_iconst rfl ?_
  refine x_zret rfl rfl (by first | exact Or.inl rfl | exact Or.inr rfl) ?_
  refine x_if_eq rfl (fun c => ?_) (fun c => ?_)
  rotate_left
  · exact absurd c (by decide)
  refine x_aload_n rfl rfl ?_
  refine x_aload_n rfl rfl ?_
  refine x_getE (y := 21) (u := 0) rfl rfl rfl rfl ?_
  refine x_putI rfl rfl rfl rfl ?_
  refine x_aload_n rfl rfl ?_
  refine x_callV (M' := mi194) (As := []) (bc1 := 0) (bs1 := 0) (bc2 := 0) (bs2 := 0) rfl rfl rfl rfl ok194 rfl rfl (by decide) rfl rfl rfl rfl rfl rfl ?_
  refine x_aload_n rfl rfl ?_
  refine x_getE (y := 21) (u := 0) rfl rfl rfl rfl ?_
  refine x_iconst rfl ?_
  refine x_icmp_ne rfl (fun c => ?_) (fun c => ?_)
  rotate_left
  · exact absurd c (by decide)
  refine x_iconst rfl ?_
  refine x_zret rfl rfl (by first | exact Or.inl rfl | exact Or.inr rfl) ?_
  refine x_zret rfl rfl (by first | exact Or.inl rfl | exact Or.inr rfl) ?_
  refine x_zret rfl rfl (by first | exact Or.inl rfl | exact Or.inr rfl) ?_
  refine x_if_ne rfl (fun c => ?_) (fun c => ?_)
  · exact absurd c (by decide)
  refine x_aload_n rfl rfl ?_
  refine x_bipush rfl ?_
  refine x_callV (M' := mi154) (As := [_]) (bc1 := 0) (bs1 := 0) (bc2 := 0) (bs2 := 0) rfl rfl rfl rfl ok154 rfl rfl (by decide) rfl rfl rfl rfl rfl rfl ?_
  refine x_aload_n rfl rfl ?_
  refine x_iload_n rfl rfl ?_
  refine x_putI rfl rfl rfl rfl ?_
  refine x_aload_n rfl rfl ?_
  refine x_getR (u := .ref _) rfl rfl rfl rfl ?_
  refine x_iload_n rfl rfl ?_
  refine x_ineg rfl ?_
  refine x_lit (b := 6) (by decide) ?_
  refine x_dup2 rfl rfl rfl ?_
  refine x_ialE (j := 6) (u := 0) rfl rfl rfl (by decide) (hF.at (by decide) rfl : VI 75 6 = 0) ?_
  refine x_iconst rfl ?_
  refine x_iadd rfl ?_
  refine x_lit (b := 1) (by decide) ?_
  refine x_iasN (j := 6) rfl rfl rfl (by decide) ?_
  refine x_iload_n rfl rfl ?_
  refine x_iret rfl rfl ?_
  refine x_iret rfl rfl ?_
  exact hP _
set_option maxRecDepth 20000 in
set_option maxHeartbeats 8000000 in
theorem cm_orders {d : Nat} {P : Post} {VI : VIT} (hF : Fm VI) (hP : PM P (-6)) : Ex (d + 21) mi269 0 (entL [.ref 74] 5) [] (LY ++ []) VI ZL (vr ZR) 0 0 P := by
  refine x_aload_n rfl rfl ?_
  refine x_iconst rfl ?_
  refine x_putI rfl rfl rfl rfl ?_
  refine x_aload_n rfl rfl ?_
  refine x_iconst rfl ?_
  refine x_callV (M' := mi211) (As := [_]) (bc1 := 0) (bs1 := 0) (bc2 := 0) (bs2 := 0) rfl rfl rfl rfl ok211 rfl rfl (by decide) rfl rfl rfl rfl rfl rfl ?_
  refine x_aload_n rfl rfl ?_
  refine x_iload_n rfl rfl ?_
  refine x_putZ rfl rfl rfl rfl (by first | exact Or.inl rfl | exact Or.inr rfl) ?_
  refine x_aload_n rfl rfl ?_
  refine x_iload_n rfl rfl ?_
  refine x_if_eq rfl (fun c => ?_) (fun c => ?_)
  · exact absurd c (by decide)
  refine x_bipush rfl ?_
  refine x_goto rfl ?_
  refine x_putI rfl rfl rfl rfl ?_
  refine x_aload_n rfl rfl ?_
  refine x_iload_n rfl rfl ?_
  refine x_if_eq rfl (fun c => ?_) (fun c => ?_)
  · exact absurd c (by decide)
  refine x_bipush rfl ?_
  refine x_goto rfl ?_
  refine x_putI rfl rfl rfl rfl ?_
  refine x_aload_n rfl rfl ?_
  refine x_callV (M' := mi210) (As := []) (bc1 := 0) (bs1 := 0) (bc2 := 0) (bs2 := 0) rfl rfl rfl rfl ok210 rfl rfl (by decide) rfl rfl rfl rfl rfl rfl ?_
  refine x_aload_n rfl rfl ?_
  refine x_aload_n rfl rfl ?_
  refine x_getE (y := 13) (u := 0) rfl rfl rfl (hF.at (by decide) rfl : VI 74 13 = 0) ?_
  refine x_callV (M' := mi193) (As := [_]) (bc1 := 0) (bs1 := 0) (bc2 := 0) (bs2 := 0) rfl rfl rfl rfl ok193 rfl rfl (by decide) rfl rfl rfl rfl rfl rfl ?_
  refine x_aload_n rfl rfl ?_
  refine x_iconst rfl ?_
  refine x_putI rfl rfl rfl rfl ?_
  refine x_iconst rfl ?_
  refine x_istore_n (ls' := [_, _, _, _, _, _]) rfl rfl rfl ?_
  refine x_iload_n rfl rfl ?_
  refine x_iload_n rfl rfl ?_
  refine x_icmp_ge rfl (fun c => ?_) (fun c => ?_)
  rotate_left
  · exact absurd c (by decide)
  refine x_aload_n rfl rfl ?_
  refine x_getR (u := .ref _) rfl rfl rfl rfl ?_
  refine x_aload_n rfl rfl ?_
  refine x_getE (y := 18) (u := 0) rfl rfl rfl rfl ?_
  refine x_iload_n rfl rfl ?_
  refine x_iasN (j := 0) rfl rfl rfl (by decide) ?_
  refine x_aload_n rfl rfl ?_
  refine x_getR (u := .ref _) rfl rfl rfl rfl ?_
  refine x_aload_n rfl rfl ?_
  refine x_getE (y := 18) (u := 0) rfl rfl rfl rfl ?_
  refine x_iconst rfl ?_
  refine x_iasN (j := 0) rfl rfl rfl (by decide) ?_
  refine x_aload_n rfl rfl ?_
  refine x_getR (u := .ref _) rfl rfl rfl rfl ?_
  refine x_aload_n rfl rfl ?_
  refine x_getE (y := 18) (u := 0) rfl rfl rfl rfl ?_
  refine x_iconst rfl ?_
  refine x_iasN (j := 0) rfl rfl rfl (by decide) ?_
  refine x_vret rfl rfl ?_
  refine x_aload_n rfl rfl ?_
  refine x_iconst rfl ?_
  refine x_putI rfl rfl rfl rfl ?_
  refine x_aload_n rfl rfl ?_
  refine x_iconst rfl ?_
  refine x_putI rfl rfl rfl rfl ?_
  refine x_aload_n rfl rfl ?_
  refine x_iconst rfl ?_
  refine x_putI rfl rfl rfl rfl ?_
  refine x_aload_n rfl rfl ?_
  refine x_iconst rfl ?_
  refine x_putI rfl rfl rfl rfl ?_
  refine x_aload_n rfl rfl ?_
  refine x_callV (M' := mi203) (As := []) (bc1 := 0) (bs1 := 0) (bc2 := 0) (bs2 := 0) rfl rfl rfl rfl ok203 rfl rfl (by decide) rfl rfl rfl rfl rfl rfl ?_
  refine x_aload_n rfl rfl ?_
  refine x_getE (y := 10) (u := 1) rfl rfl rfl rfl ?_
  refine x_if_eq rfl (fun c => ?_) (fun c => ?_)
  · exact absurd c (by decide)
  refine x_aload_n rfl rfl ?_
  refine x_callV (M' := mi202) (As := []) (bc1 := 0) (bs1 := 0) (bc2 := 0) (bs2 := 0) rfl rfl rfl rfl ok202 rfl rfl (by decide) rfl rfl rfl rfl rfl rfl ?_
  refine x_aload_n rfl rfl ?_
  refine x_bipush rfl ?_
  refine x_callV (M' := mi196) (As := [_]) (bc1 := 0) (bs1 := 0) (bc2 := 0) (bs2 := 0) rfl rfl rfl rfl ok196 rfl rfl (by decide) rfl rfl rfl rfl rfl rfl ?_
  refine x_aload_n rfl rfl ?_
  refine x_callV (M' := mi194) (As := []) (bc1 := 0) (bs1 := 0) (bc2 := 0) (bs2 := 0) rfl rfl rfl rfl ok194 rfl rfl (by decide) rfl rfl rfl rfl rfl rfl ?_
  refine x_aload_n rfl rfl ?_
  refine x_getE (y := 21) (u := (-1)) rfl rfl rfl rfl ?_
  refine x_iconst rfl ?_
  refine x_icmp_ne rfl (fun c => ?_) (fun c => ?_)
  · exact absurd c (by decide)
  refine x_iconst rfl ?_
  refine x_goto rfl ?_
  refine x_zret rfl rfl (by first | exact Or.inl rfl | exact Or.inr rfl) ?_
  refine x_if_eq rfl (fun c => ?_) (fun c => ?_)
  · exact absurd c (by decide)
  refine x_aload_n rfl rfl ?_
  refine x_getR (u := .ref _) rfl rfl rfl rfl ?_
  refine x_aload_n rfl rfl ?_
  refine x_getE (y := 19) (u := 0) rfl rfl rfl rfl ?_
  refine x_ialE (j := 0) (u := 0) rfl rfl rfl (by decide) rfl ?_
  refine x_iload_n rfl rfl ?_
  refine x_icmp_ne rfl (fun c => ?_) (fun c => ?_)
  rotate_left
  · exact absurd c (by decide)
  refine x_iconst rfl ?_
  refine x_istore_n (ls' := [_, _, _]) rfl rfl rfl ?_
  refine x_iload_n rfl rfl ?_
  refine x_if_eq rfl (fun c => ?_) (fun c => ?_)
  rotate_left
  · exact absurd c (by decide)
  refine x_iload_n rfl rfl ?_
  refine x_zret rfl rfl (by first | exact Or.inl rfl | exact Or.inr rfl) ?_
  refine x_if_eq rfl (fun c => ?_) (fun c => ?_)
  rotate_left
  · exact absurd c (by decide)
  refine x_aload_n rfl rfl ?_
  refine x_bipush rfl ?_
  refine x_callV (M' := mi196) (As := [_]) (bc1 := 0) (bs1 := 0) (bc2 := 0) (bs2 := 0) rfl rfl rfl rfl ok196 rfl rfl (by decide) rfl rfl rfl rfl rfl rfl ?_
  refine x_aload_n rfl rfl ?_
  refine x_callV (M' := mi194) (As := []) (bc1 := 0) (bs1 := 0) (bc2 := 0) (bs2 := 0) rfl rfl rfl rfl ok194 rfl rfl (by decide) rfl rfl rfl rfl rfl rfl ?_
  refine x_aload_n rfl rfl ?_
  refine x_getE (y := 21) (u := (-1)) rfl rfl rfl rfl ?_
  refine x_iconst rfl ?_
  refine x_icmp_ne rfl (fun c => ?_) (fun c => ?_)
  · exact absurd c (by decide)
  refine x_iconst rfl ?_
  refine x_goto rfl ?_
  refine x_zret rfl rfl (by first | exact Or.inl rfl | exact Or.inr rfl) ?_
  refine x_if_eq rfl (fun c => ?_) (fun c => ?_)
  · exact absurd c (by decide)
  refine x_aload_n rfl rfl ?_
  refine x_getR (u := .ref _) rfl rfl rfl rfl ?_
  refine x_aload_n rfl rfl ?_
  refine x_getE (y := 19) (u := 0) rfl rfl rfl rfl ?_
  refine x_ialE (j := 0) (u := 0) rfl rfl rfl (by decide) rfl ?_
  refine x_iload_n rfl rfl ?_
  refine x_icmp_ne rfl (fun c => ?_) (fun c => ?_)
  rotate_left
  · exact absurd c (by decide)
  refine x_iconst rfl ?_
  refine x_istore_n (ls' := [_, _, _]) rfl rfl rfl ?_
  refine x_iload_n rfl rfl ?_
  refine x_if_eq rfl (fun c => ?_) (fun c => ?_)
  rotate_left
  · exact absurd c (by decide)
  refine x_iload_n rfl rfl ?_
  refine x_zret rfl rfl (by first | exact Or.inl rfl | exact Or.inr rfl) ?_
  refine x_if_ne rfl (fun c => ?_) (fun c => ?_)
  · exact absurd c (by decide)
  refine x_aload_n rfl rfl ?_
  refine x_bipush rfl ?_
  refine x_callV (M' := mi196) (As := [_]) (bc1 := 0) (bs1 := 0) (bc2 := 0) (bs2 := 0) rfl rfl rfl rfl ok196 rfl rfl (by decide) rfl rfl rfl rfl rfl rfl ?_
  refine x_aload_n rfl rfl ?_
  refine x_callV (M' := mi194) (As := []) (bc1 := 0) (bs1 := 0) (bc2 := 0) (bs2 := 0) rfl rfl rfl rfl ok194 rfl rfl (by decide) rfl rfl rfl rfl rfl rfl ?_
  refine x_aload_n rfl rfl ?_
  refine x_getE (y := 21) (u := (-1)) rfl rfl rfl rfl ?_
  refine x_iconst rfl ?_
  refine x_icmp_ne rfl (fun c => ?_) (fun c => ?_)
  · exact absurd c (by decide)
  refine x_iconst rfl ?_
  refine x_goto rfl ?_
  refine x_zret rfl rfl (by first | exact Or.inl rfl | exact Or.inr rfl) ?_
  refine x_if_eq rfl (fun c => ?_) (fun c => ?_)
  · exact absurd c (by decide)
  refine x_aload_n rfl rfl ?_
  refine x_getR (u := .ref _) rfl rfl rfl rfl ?_
  refine x_aload_n rfl rfl ?_
  refine x_getE (y := 19) (u := 0) rfl rfl rfl rfl ?_
  refine x_ialE (j := 0) (u := 0) rfl rfl rfl (by decide) rfl ?_
  refine x_iload_n rfl rfl ?_
  refine x_icmp_ne rfl (fun c => ?_) (fun c => ?_)
  rotate_left
  · exact absurd c (by decide)
  refine x_iconst rfl ?_
  refine x_istore_n (ls' := [_, _, _]) rfl rfl rfl ?_
  refine x_iload_n rfl rfl ?_
  refine x_if_eq rfl (fun c => ?_) (fun c => ?_)
  rotate_left
  · exact absurd c (by decide)
  refine x_iload_n rfl rfl ?_
  refine x_zret rfl rfl (by first | exact Or.inl rfl | exact Or.inr rfl) ?_
  refine x_if_eq rfl (fun c => ?_) (fun c => ?_)
  rotate_left
  · exact absurd c (by decide)
  refine x_aload_n rfl rfl ?_
  refine x_bipush rfl ?_
  refine x_callV (M' := mi197) (As := [_]) (bc1 := 0) (bs1 := 0) (bc2 := 0) (bs2 := 0) rfl rfl rfl rfl ok197 rfl rfl (by decide) rfl rfl rfl rfl rfl rfl ?_
  refine x_aload_n rfl rfl ?_
  refine x_iload_n rfl rfl ?_
  refine x_callV (M' := mi196) (As := [_]) (bc1 := 0) (bs1 := 0) (bc2 := 0) (bs2 := 0) rfl rfl rfl rfl ok196 rfl rfl (by decide) rfl rfl rfl rfl rfl rfl ?_
  refine x_aload_n rfl rfl ?_
  refine x_callV (M' := mi194) (As := []) (bc1 := 0) (bs1 := 0) (bc2 := 0) (bs2 := 0) rfl rfl rfl rfl ok194 rfl rfl (by decide) rfl rfl rfl rfl rfl rfl ?_
  refine x_aload_n rfl rfl ?_
  refine x_getE (y := 21) (u := (-1)) rfl rfl rfl rfl ?_
  refine x_iconst rfl ?_
  refine x_icmp_ne rfl (fun c => ?_) (fun c => ?_)
  · exact absurd c (by decide)
  refine x_iconst rfl ?_
  refine x_goto rfl ?_
  refine x_zret rfl rfl (by first | exact Or.inl rfl | exact Or.inr rfl) ?_
  refine x_if_eq rfl (fun c => ?_) (fun c => ?_)
  · exact absurd c (by decide)
  refine x_aload_n rfl rfl ?_
  refine x_getR (u := .ref _) rfl rfl rfl rfl ?_
  refine x_aload_n rfl rfl ?_
  refine x_getE (y := 19) (u := 0) rfl rfl rfl rfl ?_
  refine x_ialE (j := 0) (u := 0) rfl rfl rfl (by decide) rfl ?_
  refine x_iload_n rfl rfl ?_
  refine x_icmp_ne rfl (fun c => ?_) (fun c => ?_)
  rotate_left
  · exact absurd c (by decide)
  refine x_iconst rfl ?_
  refine x_istore_n (ls' := [_, _, _]) rfl rfl rfl ?_
  refine x_iload_n rfl rfl ?_
  refine x_if_eq rfl (fun c => ?_) (fun c => ?_)
  rotate_left
  · exact absurd c (by decide)
  refine x_iload_n rfl rfl ?_
  refine x_zret rfl rfl (by first | exact Or.inl rfl | exact Or.inr rfl) ?_
  refine x_if_ne rfl (fun c => ?_) (fun c => ?_)
  · exact absurd c (by decide)
  refine x_aload_n rfl rfl ?_
  refine x_callV (M' := mi195) (As := []) (bc1 := 0) (bs1 := 0) (bc2 := 0) (bs2 := 0) rfl rfl rfl rfl ok195 rfl rfl (by decide) rfl rfl rfl rfl rfl rfl ?_
  refine x_aload_n rfl rfl ?_
  refine x_callV (M' := mi194) (As := []) (bc1 := 0) (bs1 := 0) (bc2 := 0) (bs2 := 0) rfl rfl rfl rfl ok194 rfl rfl (by decide) rfl rfl rfl rfl rfl rfl ?_
  refine x_aload_n rfl rfl ?_
  refine x_getE (y := 21) (u := (-1)) rfl rfl rfl rfl ?_
  refine x_iconst rfl ?_
  refine x_icmp_ne rfl (fun c => ?_) (fun c => ?_)
  · exact absurd c (by decide)
  refine x_iconst rfl ?_
  refine x_goto rfl ?_
  refine x_zret rfl rfl (by first | exact Or.inl rfl | exact Or.inr rfl) ?_
  refine x_if_eq rfl (fun c => ?_) (fun c => ?_)
  · exact absurd c (by decide)
  refine x_aload_n rfl rfl ?_
  refine x_aload_n rfl rfl ?_
  refine x_getR (u := .ref _) rfl rfl rfl rfl ?_
  refine x_aload_n rfl rfl ?_
  refine x_getE (y := 19) (u := 0) rfl rfl rfl rfl ?_
  refine x_ialE (j := 0) (u := 0) rfl rfl rfl (by decide) rfl ?_
  refine x_putI rfl rfl rfl rfl ?_
  refine x_vret rfl rfl ?_
  refine x_vret rfl rfl ?_
  refine x_aload_n rfl rfl ?_
  refine x_bipush rfl ?_
  refine x_callV (M' := mi196) (As := [_]) (bc1 := 0) (bs1 := 0) (bc2 := 0) (bs2 := 0) rfl rfl rfl rfl ok196 rfl rfl (by decide) rfl rfl rfl rfl rfl rfl ?_
  refine x_aload_n rfl rfl ?_
  refine x_callV (M' := mi194) (As := []) (bc1 := 0) (bs1 := 0) (bc2 := 0) (bs2 := 0) rfl rfl rfl rfl ok194 rfl rfl (by decide) rfl rfl rfl rfl rfl rfl ?_
  refine x_aload_n rfl rfl ?_
  refine x_getE (y := 21) (u := 0) rfl rfl rfl rfl ?_
  refine x_iconst rfl ?_
  refine x_icmp_ne rfl (fun c => ?_) (fun c => ?_)
  rotate_left
  · exact absurd c (by decide)
  refine x_iconst rfl ?_
  refine x_zret rfl rfl (by first | exact Or.inl rfl | exact Or.inr rfl) ?_
  refine x_if_eq rfl (fun c => ?_) (fun c => ?_)
  rotate_left
  · exact absurd c (by decide)
  refine x_iconst rfl ?_
  refine x_istore_n (ls' := [_, _, _]) rfl rfl rfl ?_
  refine x_iload_n rfl rfl ?_
  refine x_if_eq rfl (fun c => ?_) (fun c => ?_)
  rotate_left
  · exact absurd c (by decide)
  refine x_iload_n rfl rfl ?_
  refine x_zret rfl rfl (by first | exact Or.inl rfl | exact Or.inr rfl) ?_
  refine x_if_eq rfl (fun c => ?_) (fun c => ?_)
  rotate_left
  · exact absurd c (by decide)
  refine x_aload_n rfl rfl ?_
  refine x_iconst rfl ?_
  refine x_callV (M' := mi196) (As := [_]) (bc1 := 0) (bs1 := 0) (bc2 := 0) (bs2 := 0) rfl rfl rfl rfl ok196 rfl rfl (by decide) rfl rfl rfl rfl rfl rfl ?_
  refine x_aload_n rfl rfl ?_
  refine x_callV (M' := mi194) (As := []) (bc1 := 0) (bs1 := 0) (bc2 := 0) (bs2 := 0) rfl rfl rfl rfl ok194 rfl rfl (by decide) rfl rfl rfl rfl rfl rfl ?_
  refine x_aload_n rfl rfl ?_
  refine x_getE (y := 21) (u := 0) rfl rfl rfl rfl ?_
  refine x_iconst rfl ?_
  refine x_icmp_ne rfl (fun c => ?_) (fun c => ?_)
  rotate_left
  · exact absurd c (by decide)
  refine x_iconst rfl ?_
  refine x_zret rfl rfl (by first | exact Or.inl rfl | exact Or.inr rfl) ?_
  refine x_if_eq rfl (fun c => ?_) (fun c => ?_)
  rotate_left
  · exact absurd c (by decide)
  refine x_iconst rfl ?_
  refine x_istore_n (ls' := [_, _, _]) rfl rfl rfl ?_
  refine x_iload_n rfl rfl ?_
  refine x_if_eq rfl (fun c => ?_) (fun c => ?_)
  rotate_left
  · exact absurd c (by decide)
  refine x_iload_n rfl rfl ?_
  refine x_zret rfl rfl (by first | exact Or.inl rfl | exact Or.inr rfl) ?_
  refine x_if_eq rfl (fun c => ?_) (fun c => ?_)
  rotate_left
  · exact absurd c (by decide)
  refine x_vret rfl rfl ?_
  refine x_goto rfl ?_
  refine x_vret rfl rfl ?_
  refine x_iconst rfl ?_
  refine x_istore_n (ls' := [_, _]) rfl rfl rfl ?_
  refine x_aload_n rfl rfl ?_
  refine x_bipush rfl ?_
  refine x_callS (M' := mi199) (As := [_]) (bc1 := 0) (bs1 := 0) (bc2 := 0) (bs2 := 0) rfl rfl rfl rfl ok199 rfl rfl rfl rfl rfl rfl ?_
  refine x_bipush rfl ?_
  refine x_iload_n rfl rfl ?_
  refine x_iadd rfl ?_
  refine x_lit (b := 159) (by decide) ?_
  refine x_iret rfl rfl ?_
  refine x_callV (M' := mi196) (As := [_]) (bc1 := 0) (bs1 := 0) (bc2 := 0) (bs2 := 0) rfl rfl rfl rfl ok196 rfl rfl (by decide) rfl rfl rfl rfl rfl rfl ?_
  refine x_aload_n rfl rfl ?_
  refine x_callV (M' := mi194) (As := []) (bc1 := 0) (bs1 := 0) (bc2 := 0) (bs2 := 0) rfl rfl rfl rfl ok194 rfl rfl (by decide) rfl rfl rfl rfl rfl rfl ?_
  refine x_aload_n rfl rfl ?_
  refine x_getE (y := 21) (u := 0) rfl rfl rfl rfl ?_
  refine x_iconst rfl ?_
  refine x_icmp_ne rfl (fun c => ?_) (fun c => ?_)
  rotate_left
  · exact absurd c (by decide)
  refine x_iconst rfl ?_
  refine x_zret rfl rfl (by first | exact Or.inl rfl | exact Or.inr rfl) ?_
  refine x_if_eq rfl (fun c => ?_) (fun c => ?_)
  rotate_left
  · exact absurd c (by decide)
  refine x_iconst rfl ?_
  refine x_istore_n (ls' := [_, _, _]) rfl rfl rfl ?_
  refine x_iload_n rfl rfl ?_
  refine x_if_eq rfl (fun c => ?_) (fun c => ?_)
  rotate_left
  · exact absurd c (by decide)
  refine x_iload_n rfl rfl ?_
  refine x_zret rfl rfl (by first | exact Or.inl rfl | exact Or.inr rfl) ?_
  refine x_if_eq rfl (fun c => ?_) (fun c => ?_)
  rotate_left
  · exact absurd c (by decide)
  refine x_aload_n rfl rfl ?_
  refine x_callV (M' := mi194) (As := []) (bc1 := 0) (bs1 := 0) (bc2 := 0) (bs2 := 0) rfl rfl rfl rfl ok194 rfl rfl (by decide) rfl rfl rfl rfl rfl rfl ?_
  refine x_aload_n rfl rfl ?_
  refine x_getE (y := 21) (u := 0) rfl rfl rfl rfl ?_
  refine x_iconst rfl ?_
  refine x_icmp_ne rfl (fun c => ?_) (fun c => ?_)
  rotate_left
  · exact absurd c (by decide)
  refine x_iconst rfl ?_
  refine x_zret rfl rfl (by first | exact Or.inl rfl | exact Or.inr rfl) ?_
  refine x_if_eq rfl (fun c => ?_) (fun c => ?_)
  rotate_left
  · exact absurd c (by decide)
  refine x_aload_n rfl rfl ?_
  refine x_aload_n rfl rfl ?_
  refine x_getE (y := 21) (u := 0) rfl rfl rfl rfl ?_
  refine x_putI rfl rfl rfl rfl ?_
  refine x_aload_n rfl rfl ?_
  refine x_callV (M' := mi194) (As := []) (bc1 := 0) (bs1 := 0) (bc2 := 0) (bs2 := 0) rfl rfl rfl rfl ok194 rfl rfl (by decide) rfl rfl rfl rfl rfl rfl ?_
  refine x_aload_n rfl rfl ?_
  refine x_getE (y := 21) (u := 0) rfl rfl rfl rfl ?_
  refine x_iconst rfl ?_
  refine x_icmp_ne rfl (fun c => ?_) (fun c => ?_)
  rotate_left
  · exact absurd c (by decide)
  refine x_iconst rfl ?_
  refine x_zret rfl rfl (by first | exact Or.inl rfl | exact Or.inr rfl) ?_
  refine x_zret rfl rfl (by first | exact Or.inl rfl | exact Or.inr rfl) ?_
  refine x_zret rfl rfl (by first | exact Or.inl rfl | exact Or.inr rfl) ?_
  refine x_if_ne rfl (fun c => ?_) (fun c => ?_)
  · exact absurd c (by decide)
  refine x_aload_n rfl rfl ?_
  refine x_bipush rfl ?_
  refine x_callV (M' := mi154) (As := [_]) (bc1 := 0) (bs1 := 0) (bc2 := 0) (bs2 := 0) rfl rfl rfl rfl ok154 rfl rfl (by decide) rfl rfl rfl rfl rfl rfl ?_
  refine x_aload_n rfl rfl ?_
  refine x_iload_n rfl rfl ?_
  refine x_putI rfl rfl rfl rfl ?_
  refine x_aload_n rfl rfl ?_
  refine x_getR (u := .ref _) rfl rfl rfl rfl ?_
  refine x_iload_n rfl rfl ?_
  refine x_ineg rfl ?_
  refine x_lit (b := 6) (by decide) ?_
  refine x_dup2 rfl rfl rfl ?_
  refine x_ialE (j := 6) (u := 0) rfl rfl rfl (by decide) (hF.at (by decide) rfl : VI 75 6 = 0) ?_
  refine x_iconst rfl ?_
  refine x_iadd rfl ?_
  refine x_lit (b := 1) (by decide) ?_
  refine x_iasN (j := 6) rfl rfl rfl (by decide) ?_
  refine x_iload_n rfl rfl ?_
  refine x_iret rfl rfl ?_
  refine x_iret rfl rfl ?_
  exact hP _
set_option maxRecDepth 20000 in
set_option maxHeartbeats 8000000 in
theorem cm_pass {d : Nat} {P : Post} {VI : VIT} (hF : Fm VI) (hP : PM P 1) : Ex (d + 2) mi247 0 (entL [.ref 74] 1) [] (LY ++ []) VI ZL (vr ZR) 0 0 P := by
  refine x_aload_n rfl rfl ?_
  refine x_aload_n rfl rfl ?_
  refine x_callV (M' := mi243) (As := []) (bc1 := 0) (bs1 := 0) (bc2 := 0) (bs2 := 0) rfl rfl rfl rfl ok243 rfl rfl (by decide) rfl rfl rfl rfl rfl rfl ?_
  refine x_aload_n rfl rfl ?_
  refine x_getR (u := .ref _) rfl rfl rfl rfl ?_
  refine x_bipush rfl ?_
  refine x_ialE (j := 38) (u := 0) rfl rfl rfl (by decide) (hF.at (by decide) rfl : VI 76 38 = 0) ?_
  refine x_sipush rfl ?_
  refine x_icmp_ne rfl (fun c => ?_) (fun c => ?_)
  rotate_left
  · exact absurd c (by decide)
  refine x_aload_n rfl rfl ?_
  refine x_iconst rfl ?_
  refine x_callV (M' := mi235) (As := [_]) (bc1 := 0) (bs1 := 0) (bc2 := 0) (bs2 := 0) rfl rfl rfl rfl ok235 rfl rfl (by decide) rfl rfl rfl rfl rfl rfl ?_
  refine x_bipush rfl ?_
  refine x_istore_n (ls' := [_, _, _, _]) rfl rfl rfl ?_
  refine x_aload_n rfl rfl ?_
  refine x_getE (y := 32) (u := 0) rfl rfl rfl (hF.at (by decide) rfl : VI 74 32 = 0) ?_
  refine x_bipush rfl ?_
  refine x_icmp_ne rfl (fun c => ?_) (fun c => ?_)
  rotate_left
  · exact absurd c (by decide)
  refine x_iconst rfl ?_
  refine x_istore_n (ls' := [_, _, _, _]) rfl rfl rfl ?_
  refine x_iload_n rfl rfl ?_
  refine x_bipush rfl ?_
  refine x_icmp_ge rfl (fun c => ?_) (fun c => ?_)
  · exact absurd c (by decide)
  refine x_aload_n rfl rfl ?_
  refine x_getR (u := .ref _) rfl rfl rfl rfl ?_
  refine x_iload_n rfl rfl ?_
  refine x_aload_n rfl rfl ?_
  refine x_getE (y := 32) (u := 0) rfl rfl rfl (hF.at (by decide) rfl : VI 74 32 = 0) ?_
  refine x_imul rfl ?_
  refine x_lit (b := 0) (by decide) ?_
  refine x_iload_n rfl rfl ?_
  refine x_iadd rfl ?_
  refine x_lit (b := 0) (by decide) ?_
  refine x_aload_n rfl rfl ?_
  refine x_getR (u := .ref _) rfl rfl rfl rfl ?_
  refine x_iload_n rfl rfl ?_
  refine x_ialE (j := 0) (u := 0) rfl rfl rfl (by decide) (hF.at (by decide) rfl : VI 76 0 = 0) ?_
  refine x_iasN (j := 0) rfl rfl rfl (by decide) ?_
  refine x_iinc (ls' := [_, _, _, _]) rfl rfl rfl rfl ?_
  refine x_goto rfl ?_
  refine x_iload_n rfl rfl ?_
  refine x_bipush rfl ?_
  refine x_icmp_ge rfl (fun c => ?_) (fun c => ?_)
  · exact absurd c (by decide)
  refine x_aload_n rfl rfl ?_
  refine x_getR (u := .ref _) rfl rfl rfl rfl ?_
  refine x_iload_n rfl rfl ?_
  refine x_aload_n rfl rfl ?_
  refine x_getE (y := 32) (u := 0) rfl rfl rfl (hF.at (by decide) rfl : VI 74 32 = 0) ?_
  refine x_imul rfl ?_
  refine x_lit (b := 0) (by decide) ?_
  refine x_iload_n rfl rfl ?_
  refine x_iadd rfl ?_
  refine x_lit (b := 1) (by decide) ?_
  refine x_aload_n rfl rfl ?_
  refine x_getR (u := .ref _) rfl rfl rfl rfl ?_
  refine x_iload_n rfl rfl ?_
  refine x_ialE (j := 1) (u := 0) rfl rfl rfl (by decide) (hF.at (by decide) rfl : VI 76 1 = 0) ?_
  refine x_iasN (j := 1) rfl rfl rfl (by decide) ?_
  refine x_iinc (ls' := [_, _, _, _]) rfl rfl rfl rfl ?_
  refine x_goto rfl ?_
  refine x_iload_n rfl rfl ?_
  refine x_bipush rfl ?_
  refine x_icmp_ge rfl (fun c => ?_) (fun c => ?_)
  · exact absurd c (by decide)
  refine x_aload_n rfl rfl ?_
  refine x_getR (u := .ref _) rfl rfl rfl rfl ?_
  refine x_iload_n rfl rfl ?_
  refine x_aload_n rfl rfl ?_
  refine x_getE (y := 32) (u := 0) rfl rfl rfl (hF.at (by decide) rfl : VI 74 32 = 0) ?_
  refine x_imul rfl ?_
  refine x_lit (b := 0) (by decide) ?_
  refine x_iload_n rfl rfl ?_
  refine x_iadd rfl ?_
  refine x_lit (b := 2) (by decide) ?_
  refine x_aload_n rfl rfl ?_
  refine x_getR (u := .ref _) rfl rfl rfl rfl ?_
  refine x_iload_n rfl rfl ?_
  refine x_ialE (j := 2) (u := 0) rfl rfl rfl (by decide) (hF.at (by decide) rfl : VI 76 2 = 0) ?_
  refine x_iasN (j := 2) rfl rfl rfl (by decide) ?_
  refine x_iinc (ls' := [_, _, _, _]) rfl rfl rfl rfl ?_
  refine x_goto rfl ?_
  refine x_iload_n rfl rfl ?_
  refine x_bipush rfl ?_
  refine x_icmp_ge rfl (fun c => ?_) (fun c => ?_)
  · exact absurd c (by decide)
  refine x_aload_n rfl rfl ?_
  refine x_getR (u := .ref _) rfl rfl rfl rfl ?_
  refine x_iload_n rfl rfl ?_
  refine x_aload_n rfl rfl ?_
  refine x_getE (y := 32) (u := 0) rfl rfl rfl (hF.at (by decide) rfl : VI 74 32 = 0) ?_
  refine x_imul rfl ?_
  refine x_lit (b := 0) (by decide) ?_
  refine x_iload_n rfl rfl ?_
  refine x_iadd rfl ?_
  refine x_lit (b := 3) (by decide) ?_
  refine x_aload_n rfl rfl ?_
  refine x_getR (u := .ref _) rfl rfl rfl rfl ?_
  refine x_iload_n rfl rfl ?_
  refine x_ialE (j := 3) (u := 0) rfl rfl rfl (by decide) (hF.at (by decide) rfl : VI 76 3 = 0) ?_
  refine x_iasN (j := 3) rfl rfl rfl (by decide) ?_
  refine x_iinc (ls' := [_, _, _, _]) rfl rfl rfl rfl ?_
  refine x_goto rfl ?_
  refine x_iload_n rfl rfl ?_
  refine x_bipush rfl ?_
  refine x_icmp_ge rfl (fun c => ?_) (fun c => ?_)
  · exact absurd c (by decide)
  refine x_aload_n rfl rfl ?_
  refine x_getR (u := .ref _) rfl rfl rfl rfl ?_
  refine x_iload_n rfl rfl ?_
  refine x_aload_n rfl rfl ?_
  refine x_getE (y := 32) (u := 0) rfl rfl rfl (hF.at (by decide) rfl : VI 74 32 = 0) ?_
  refine x_imul rfl ?_
  refine x_lit (b := 0) (by decide) ?_
  refine x_iload_n rfl rfl ?_
  refine x_iadd rfl ?_
  refine x_lit (b := 4) (by decide) ?_
  refine x_aload_n rfl rfl ?_
  refine x_getR (u := .ref _) rfl rfl rfl rfl ?_
  refine x_iload_n rfl rfl ?_
  refine x_ialE (j := 4) (u := 0) rfl rfl rfl (by decide) (hF.at (by decide) rfl : VI 76 4 = 0) ?_
  refine x_iasN (j := 4) rfl rfl rfl (by decide) ?_
  refine x_iinc (ls' := [_, _, _, _]) rfl rfl rfl rfl ?_
  refine x_goto rfl ?_
  refine x_iload_n rfl rfl ?_
  refine x_bipush rfl ?_
  refine x_icmp_ge rfl (fun c => ?_) (fun c => ?_)
  · exact absurd c (by decide)
  refine x_aload_n rfl rfl ?_
  refine x_getR (u := .ref _) rfl rfl rfl rfl ?_
  refine x_iload_n rfl rfl ?_
  refine x_aload_n rfl rfl ?_
  refine x_getE (y := 32) (u := 0) rfl rfl rfl (hF.at (by decide) rfl : VI 74 32 = 0) ?_
  refine x_imul rfl ?_
  refine x_lit (b := 0) (by decide) ?_
  refine x_iload_n rfl rfl ?_
  refine x_iadd rfl ?_
  refine x_lit (b := 5) (by decide) ?_
  refine x_aload_n rfl rfl ?_
  refine x_getR (u := .ref _) rfl rfl rfl rfl ?_
  refine x_iload_n rfl rfl ?_
  refine x_ialE (j := 5) (u := 0) rfl rfl rfl (by decide) (hF.at (by decide) rfl : VI 76 5 = 0) ?_
  refine x_iasN (j := 5) rfl rfl rfl (by decide) ?_
  refine x_iinc (ls' := [_, _, _, _]) rfl rfl rfl rfl ?_
  refine x_goto rfl ?_
  refine x_iload_n rfl rfl ?_
  refine x_bipush rfl ?_
  refine x_icmp_ge rfl (fun c => ?_) (fun c => ?_)
  · exact absurd c (by decide)
  refine x_aload_n rfl rfl ?_
  refine x_getR (u := .ref _) rfl rfl rfl rfl ?_
  refine x_iload_n rfl rfl ?_
  refine x_aload_n rfl rfl ?_
  refine x_getE (y := 32) (u := 0) rfl rfl rfl (hF.at (by decide) rfl : VI 74 32 = 0) ?_
  refine x_imul rfl ?_
  refine x_lit (b := 0) (by decide) ?_
  refine x_iload_n rfl rfl ?_
  refine x_iadd rfl ?_
  refine x_lit (b := 6) (by decide) ?_
  refine x_aload_n rfl rfl ?_
  refine x_getR (u := .ref _) rfl rfl rfl rfl ?_
  refine x_iload_n rfl rfl ?_
  refine x_ialE (j := 6) (u := 0) rfl rfl rfl (by decide) (hF.at (by decide) rfl : VI 76 6 = 0) ?_
  refine x_iasN (j := 6) rfl rfl rfl (by decide) ?_
  refine x_iinc (ls' := [_, _, _, _]) rfl rfl rfl rfl ?_
  refine x_goto rfl ?_
  refine x_iload_n rfl rfl ?_
  refine x_bipush rfl ?_
  refine x_icmp_ge rfl (fun c => ?_) (fun c => ?_)
  · exact absurd c (by decide)
  refine x_aload_n rfl rfl ?_
  refine x_getR (u := .ref _) rfl rfl rfl rfl ?_
  refine x_iload_n rfl rfl ?_
  refine x_aload_n rfl rfl ?_
  refine x_getE (y := 32) (u := 0) rfl rfl rfl (hF.at (by decide) rfl : VI 74 32 = 0) ?_
  refine x_imul rfl ?_
  refine x_lit (b := 0) (by decide) ?_
  refine x_iload_n rfl rfl ?_
  refine x_iadd rfl ?_
  refine x_lit (b := 7) (by decide) ?_
  refine x_aload_n rfl rfl ?_
  refine x_getR (u := .ref _) rfl rfl rfl rfl ?_
  refine x_iload_n rfl rfl ?_
  refine x_ialE (j := 7) (u := 0) rfl rfl rfl (by decide) (hF.at (by decide) rfl : VI 76 7 = 0) ?_
  refine x_iasN (j := 7) rfl rfl rfl (by decide) ?_
  refine x_iinc (ls' := [_, _, _, _]) rfl rfl rfl rfl ?_
  refine x_goto rfl ?_
  refine x_iload_n rfl rfl ?_
  refine x_bipush rfl ?_
  refine x_icmp_ge rfl (fun c => ?_) (fun c => ?_)
  · exact absurd c (by decide)
  refine x_aload_n rfl rfl ?_
  refine x_getR (u := .ref _) rfl rfl rfl rfl ?_
  refine x_iload_n rfl rfl ?_
  refine x_aload_n rfl rfl ?_
  refine x_getE (y := 32) (u := 0) rfl rfl rfl (hF.at (by decide) rfl : VI 74 32 = 0) ?_
  refine x_imul rfl ?_
  refine x_lit (b := 0) (by decide) ?_
  refine x_iload_n rfl rfl ?_
  refine x_iadd rfl ?_
  refine x_lit (b := 8) (by decide) ?_
  refine x_aload_n rfl rfl ?_
  refine x_getR (u := .ref _) rfl rfl rfl rfl ?_
  refine x_iload_n rfl rfl ?_
  refine x_ialE (j := 8) (u := 0) rfl rfl rfl (by decide) (hF.at (by decide) rfl : VI 76 8 = 0) ?_
  refine x_iasN (j := 8) rfl rfl rfl (by decide) ?_
  refine x_iinc (ls' := [_, _, _, _]) rfl rfl rfl rfl ?_
  refine x_goto rfl ?_
  refine x_iload_n rfl rfl ?_
  refine x_bipush rfl ?_
  refine x_icmp_ge rfl (fun c => ?_) (fun c => ?_)
  · exact absurd c (by decide)
  refine x_aload_n rfl rfl ?_
  refine x_getR (u := .ref _) rfl rfl rfl rfl ?_
  refine x_iload_n rfl rfl ?_
  refine x_aload_n rfl rfl ?_
  refine x_getE (y := 32) (u := 0) rfl rfl rfl (hF.at (by decide) rfl : VI 74 32 = 0) ?_
  refine x_imul rfl ?_
  refine x_lit (b := 0) (by decide) ?_
  refine x_iload_n rfl rfl ?_
  refine x_iadd rfl ?_
  refine x_lit (b := 9) (by decide) ?_
  refine x_aload_n rfl rfl ?_
  refine x_getR (u := .ref _) rfl rfl rfl rfl ?_
  refine x_iload_n rfl rfl ?_
  refine x_ialE (j := 9) (u := 0) rfl rfl rfl (by decide) (hF.at (by decide) rfl : VI 76 9 = 0) ?_
  refine x_iasN (j := 9) rfl rfl rfl (by decide) ?_
  refine x_iinc (ls' := [_, _, _, _]) rfl rfl rfl rfl ?_
  refine x_goto rfl ?_
  refine x_iload_n rfl rfl ?_
  refine x_bipush rfl ?_
  refine x_icmp_ge rfl (fun c => ?_) (fun c => ?_)
  · exact absurd c (by decide)
  refine x_aload_n rfl rfl ?_
  refine x_getR (u := .ref _) rfl rfl rfl rfl ?_
  refine x_iload_n rfl rfl ?_
  refine x_aload_n rfl rfl ?_
  refine x_getE (y := 32) (u := 0) rfl rfl rfl (hF.at (by decide) rfl : VI 74 32 = 0) ?_
  refine x_imul rfl ?_
  refine x_lit (b := 0) (by decide) ?_
  refine x_iload_n rfl rfl ?_
  refine x_iadd rfl ?_
  refine x_lit (b := 10) (by decide) ?_
  refine x_aload_n rfl rfl ?_
  refine x_getR (u := .ref _) rfl rfl rfl rfl ?_
  refine x_iload_n rfl rfl ?_
  refine x_ialE (j := 10) (u := 0) rfl rfl rfl (by decide) (hF.at (by decide) rfl : VI 76 10 = 0) ?_
  refine x_iasN (j := 10) rfl rfl rfl (by decide) ?_
  refine x_iinc (ls' := [_, _, _, _]) rfl rfl rfl rfl ?_
  refine x_goto rfl ?_
  refine x_iload_n rfl rfl ?_
  refine x_bipush rfl ?_
  refine x_icmp_ge rfl (fun c => ?_) (fun c => ?_)
  · exact absurd c (by decide)
  refine x_aload_n rfl rfl ?_
  refine x_getR (u := .ref _) rfl rfl rfl rfl ?_
  refine x_iload_n rfl rfl ?_
  refine x_aload_n rfl rfl ?_
  refine x_getE (y := 32) (u := 0) rfl rfl rfl (hF.at (by decide) rfl : VI 74 32 = 0) ?_
  refine x_imul rfl ?_
  refine x_lit (b := 0) (by decide) ?_
  refine x_iload_n rfl rfl ?_
  refine x_iadd rfl ?_
  refine x_lit (b := 11) (by decide) ?_
  refine x_aload_n rfl rfl ?_
  refine x_getR (u := .ref _) rfl rfl rfl rfl ?_
  refine x_iload_n rfl rfl ?_
  refine x_ialE (j := 11) (u := 0) rfl rfl rfl (by decide) (hF.at (by decide) rfl : VI 76 11 = 0) ?_
  refine x_iasN (j := 11) rfl rfl rfl (by decide) ?_
  refine x_iinc (ls' := [_, _, _, _]) rfl rfl rfl rfl ?_
  refine x_goto rfl ?_
  refine x_iload_n rfl rfl ?_
  refine x_bipush rfl ?_
  refine x_icmp_ge rfl (fun c => ?_) (fun c => ?_)
  · exact absurd c (by decide)
  refine x_aload_n rfl rfl ?_
  refine x_getR (u := .ref _) rfl rfl rfl rfl ?_
  refine x_iload_n rfl rfl ?_
  refine x_aload_n rfl rfl ?_
  refine x_getE (y := 32) (u := 0) rfl rfl rfl (hF.at (by decide) rfl : VI 74 32 = 0) ?_
  refine x_imul rfl ?_
  refine x_lit (b := 0) (by decide) ?_
  refine x_iload_n rfl rfl ?_
  refine x_iadd rfl ?_
  refine x_lit (b := 12) (by decide) ?_
  refine x_aload_n rfl rfl ?_
  refine x_getR (u := .ref _) rfl rfl rfl rfl ?_
  refine x_iload_n rfl rfl ?_
  refine x_ialE (j := 12) (u := 0) rfl rfl rfl (by decide) (hF.at (by decide) rfl : VI 76 12 = 0) ?_
  refine x_iasN (j := 12) rfl rfl rfl (by decide) ?_
  refine x_iinc (ls' := [_, _, _, _]) rfl rfl rfl rfl ?_
  refine x_goto rfl ?_
  refine x_iload_n rfl rfl ?_
  refine x_bipush rfl ?_
  refine x_icmp_ge rfl (fun c => ?_) (fun c => ?_)
  · exact absurd c (by decide)
  refine x_aload_n rfl rfl ?_
  refine x_getR (u := .ref _) rfl rfl rfl rfl ?_
  refine x_iload_n rfl rfl ?_
  refine x_aload_n rfl rfl ?_
  refine x_getE (y := 32) (u := 0) rfl rfl rfl (hF.at (by decide) rfl : VI 74 32 = 0) ?_
  refine x_imul rfl ?_
  refine x_lit (b := 0) (by decide) ?_
  refine x_iload_n rfl rfl ?_
  refine x_iadd rfl ?_
  refine x_lit (b := 13) (by decide) ?_
  refine x_aload_n rfl rfl ?_
  refine x_getR (u := .ref _) rfl rfl rfl rfl ?_
  refine x_iload_n rfl rfl ?_
  refine x_ialE (j := 13) (u := 0) rfl rfl rfl (by decide) (hF.at (by decide) rfl : VI 76 13 = 0) ?_
  refine x_iasN (j := 13) rfl rfl rfl (by decide) ?_
  refine x_iinc (ls' := [_, _, _, _]) rfl rfl rfl rfl ?_
  refine x_goto rfl ?_
  refine x_iload_n rfl rfl ?_
  refine x_bipush rfl ?_
  refine x_icmp_ge rfl (fun c => ?_) (fun c => ?_)
  · exact absurd c (by decide)
  refine x_aload_n rfl rfl ?_
  refine x_getR (u := .ref _) rfl rfl rfl rfl ?_
  refine x_iload_n rfl rfl ?_
  refine x_aload_n rfl rfl ?_
  refine x_getE (y := 32) (u := 0) rfl rfl rfl (hF.at (by decide) rfl : VI 74 32 = 0) ?_
  refine x_imul rfl ?_
  refine x_lit (b := 0) (by decide) ?_
  refine x_iload_n rfl rfl ?_
  refine x_iadd rfl ?_
  refine x_lit (b := 14) (by decide) ?_
  refine x_aload_n rfl rfl ?_
  refine x_getR (u := .ref _) rfl rfl rfl rfl ?_
  refine x_iload_n rfl rfl ?_
  refine x_ialE (j := 14) (u := 0) rfl rfl rfl (by decide) (hF.at (by decide) rfl : VI 76 14 = 0) ?_
  refine x_iasN (j := 14) rfl rfl rfl (by decide) ?_
  refine x_iinc (ls' := [_, _, _, _]) rfl rfl rfl rfl ?_
  refine x_goto rfl ?_
  refine x_iload_n rfl rfl ?_
  refine x_bipush rfl ?_
  refine x_icmp_ge rfl (fun c => ?_) (fun c => ?_)
  · exact absurd c (by decide)
  refine x_aload_n rfl rfl ?_
  refine x_getR (u := .ref _) rfl rfl rfl rfl ?_
  refine x_iload_n rfl rfl ?_
  refine x_aload_n rfl rfl ?_
  refine x_getE (y := 32) (u := 0) rfl rfl rfl (hF.at (by decide) rfl : VI 74 32 = 0) ?_
  refine x_imul rfl ?_
  refine x_lit (b := 0) (by decide) ?_
  refine x_iload_n rfl rfl ?_
  refine x_iadd rfl ?_
  refine x_lit (b := 15) (by decide) ?_
  refine x_aload_n rfl rfl ?_
  refine x_getR (u := .ref _) rfl rfl rfl rfl ?_
  refine x_iload_n rfl rfl ?_
  refine x_ialE (j := 15) (u := 0) rfl rfl rfl (by decide) (hF.at (by decide) rfl : VI 76 15 = 0) ?_
  refine x_iasN (j := 15) rfl rfl rfl (by decide) ?_
  refine x_iinc (ls' := [_, _, _, _]) rfl rfl rfl rfl ?_
  refine x_goto rfl ?_
  refine x_iload_n rfl rfl ?_
  refine x_bipush rfl ?_
  refine x_icmp_ge rfl (fun c => ?_) (fun c => ?_)
  · exact absurd c (by decide)
  refine x_aload_n rfl rfl ?_
  refine x_getR (u := .ref _) rfl rfl rfl rfl ?_
  refine x_iload_n rfl rfl ?_
  refine x_aload_n rfl rfl ?_
  refine x_getE (y := 32) (u := 0) rfl rfl rfl (hF.at (by decide) rfl : VI 74 32 = 0) ?_
  refine x_imul rfl ?_
  refine x_lit (b := 0) (by decide) ?_
  refine x_iload_n rfl rfl ?_
  refine x_iadd rfl ?_
  refine x_lit (b := 16) (by decide) ?_
  refine x_aload_n rfl rfl ?_
  refine x_getR (u := .ref _) rfl rfl rfl rfl ?_
  refine x_iload_n rfl rfl ?_
  refine x_ialE (j := 16) (u := 0) rfl rfl rfl (by decide) (hF.at (by decide) rfl : VI 76 16 = 0) ?_
  refine x_iasN (j := 16) rfl rfl rfl (by decide) ?_
  refine x_iinc (ls' := [_, _, _, _]) rfl rfl rfl rfl ?_
  refine x_goto rfl ?_
  refine x_iload_n rfl rfl ?_
  refine x_bipush rfl ?_
  refine x_icmp_ge rfl (fun c => ?_) (fun c => ?_)
  · exact absurd c (by decide)
  refine x_aload_n rfl rfl ?_
  refine x_getR (u := .ref _) rfl rfl rfl rfl ?_
  refine x_iload_n rfl rfl ?_
  refine x_aload_n rfl rfl ?_
  refine x_getE (y := 32) (u := 0) rfl rfl rfl (hF.at (by decide) rfl : VI 74 32 = 0) ?_
  refine x_imul rfl ?_
  refine x_lit (b := 0) (by decide) ?_
  refine x_iload_n rfl rfl ?_
  refine x_iadd rfl ?_
  refine x_lit (b := 17) (by decide) ?_
  refine x_aload_n rfl rfl ?_
  refine x_getR (u := .ref _) rfl rfl rfl rfl ?_
  refine x_iload_n rfl rfl ?_
  refine x_ialE (j := 17) (u := 0) rfl rfl rfl (by decide) (hF.at (by decide) rfl : VI 76 17 = 0) ?_
  refine x_iasN (j := 17) rfl rfl rfl (by decide) ?_
  refine x_iinc (ls' := [_, _, _, _]) rfl rfl rfl rfl ?_
  refine x_goto rfl ?_
  refine x_iload_n rfl rfl ?_
  refine x_bipush rfl ?_
  refine x_icmp_ge rfl (fun c => ?_) (fun c => ?_)
  · exact absurd c (by decide)
  refine x_aload_n rfl rfl ?_
  refine x_getR (u := .ref _) rfl rfl rfl rfl ?_
  refine x_iload_n rfl rfl ?_
  refine x_aload_n rfl rfl ?_
  refine x_getE (y := 32) (u := 0) rfl rfl rfl (hF.at (by decide) rfl : VI 74 32 = 0) ?_
  refine x_imul rfl ?_
  refine x_lit (b := 0) (by decide) ?_
  refine x_iload_n rfl rfl ?_
  refine x_iadd rfl ?_
  refine x_lit (b := 18) (by decide) ?_
  refine x_aload_n rfl rfl ?_
  refine x_getR (u := .ref _) rfl rfl rfl rfl ?_
  refine x_iload_n rfl rfl ?_
  refine x_ialE (j := 18) (u := 0) rfl rfl rfl (by decide) (hF.at (by decide) rfl : VI 76 18 = 0) ?_
  refine x_iasN (j := 18) rfl rfl rfl (by decide) ?_
  refine x_iinc (ls' := [_, _, _, _]) rfl rfl rfl rfl ?_
  refine x_goto rfl ?_
  refine x_iload_n rfl rfl ?_
  refine x_bipush rfl ?_
  refine x_icmp_ge rfl (fun c => ?_) (fun c => ?_)
  · exact absurd c (by decide)
  refine x_aload_n rfl rfl ?_
  refine x_getR (u := .ref _) rfl rfl rfl rfl ?_
  refine x_iload_n rfl rfl ?_
  refine x_aload_n rfl rfl ?_
  refine x_getE (y := 32) (u := 0) rfl rfl rfl (hF.at (by decide) rfl : VI 74 32 = 0) ?_
  refine x_imul rfl ?_
  refine x_lit (b := 0) (by decide) ?_
  refine x_iload_n rfl rfl ?_
  refine x_iadd rfl ?_
  refine x_lit (b := 19) (by decide) ?_
  refine x_aload_n rfl rfl ?_
  refine x_getR (u := .ref _) rfl rfl rfl rfl ?_
  refine x_iload_n rfl rfl ?_
  refine x_ialE (j := 19) (u := 0) rfl rfl rfl (by decide) (hF.at (by decide) rfl : VI 76 19 = 0) ?_
  refine x_iasN (j := 19) rfl rfl rfl (by decide) ?_
  refine x_iinc (ls' := [_, _, _, _]) rfl rfl rfl rfl ?_
  refine x_goto rfl ?_
  refine x_iload_n rfl rfl ?_
  refine x_bipush rfl ?_
  refine x_icmp_ge rfl (fun c => ?_) (fun c => ?_)
  · exact absurd c (by decide)
  refine x_aload_n rfl rfl ?_
  refine x_getR (u := .ref _) rfl rfl rfl rfl ?_
  refine x_iload_n rfl rfl ?_
  refine x_aload_n rfl rfl ?_
  refine x_getE (y := 32) (u := 0) rfl rfl rfl (hF.at (by decide) rfl : VI 74 32 = 0) ?_
  refine x_imul rfl ?_
  refine x_lit (b := 0) (by decide) ?_
  refine x_iload_n rfl rfl ?_
  refine x_iadd rfl ?_
  refine x_lit (b := 20) (by decide) ?_
  refine x_aload_n rfl rfl ?_
  refine x_getR (u := .ref _) rfl rfl rfl rfl ?_
  refine x_iload_n rfl rfl ?_
  refine x_ialE (j := 20) (u := 0) rfl rfl rfl (by decide) (hF.at (by decide) rfl : VI 76 20 = 0) ?_
  refine x_iasN (j := 20) rfl rfl rfl (by decide) ?_
  refine x_iinc (ls' := [_, _, _, _]) rfl rfl rfl rfl ?_
  refine x_goto rfl ?_
  refine x_iload_n rfl rfl ?_
  refine x_bipush rfl ?_
  refine x_icmp_ge rfl (fun c => ?_) (fun c => ?_)
  · exact absurd c (by decide)
  refine x_aload_n rfl rfl ?_
  refine x_getR (u := .ref _) rfl rfl rfl rfl ?_
  refine x_iload_n rfl rfl ?_
  refine x_aload_n rfl rfl ?_
  refine x_getE (y := 32) (u := 0) rfl rfl rfl (hF.at (by decide) rfl : VI 74 32 = 0) ?_
  refine x_imul rfl ?_
  refine x_lit (b := 0) (by decide) ?_
  refine x_iload_n rfl rfl ?_
  refine x_iadd rfl ?_
  refine x_lit (b := 21) (by decide) ?_
  refine x_aload_n rfl rfl ?_
  refine x_getR (u := .ref _) rfl rfl rfl rfl ?_
  refine x_iload_n rfl rfl ?_
  refine x_ialE (j := 21) (u := 0) rfl rfl rfl (by decide) (hF.at (by decide) rfl : VI 76 21 = 0) ?_
  refine x_iasN (j := 21) rfl rfl rfl (by decide) ?_
  refine x_iinc (ls' := [_, _, _, _]) rfl rfl rfl rfl ?_
  refine x_goto rfl ?_
  refine x_iload_n rfl rfl ?_
  refine x_bipush rfl ?_
  refine x_icmp_ge rfl (fun c => ?_) (fun c => ?_)
  · exact absurd c (by decide)
  refine x_aload_n rfl rfl ?_
  refine x_getR (u := .ref _) rfl rfl rfl rfl ?_
  refine x_iload_n rfl rfl ?_
  refine x_aload_n rfl rfl ?_
  refine x_getE (y := 32) (u := 0) rfl rfl rfl (hF.at (by decide) rfl : VI 74 32 = 0) ?_
  refine x_imul rfl ?_
  refine x_lit (b := 0) (by decide) ?_
  refine x_iload_n rfl rfl ?_
  refine x_iadd rfl ?_
  refine x_lit (b := 22) (by decide) ?_
  refine x_aload_n rfl rfl ?_
  refine x_getR (u := .ref _) rfl rfl rfl rfl ?_
  refine x_iload_n rfl rfl ?_
  refine x_ialE (j := 22) (u := 0) rfl rfl rfl (by decide) (hF.at (by decide) rfl : VI 76 22 = 0) ?_
  refine x_iasN (j := 22) rfl rfl rfl (by decide) ?_
  refine x_iinc (ls' := [_, _, _, _]) rfl rfl rfl rfl ?_
  refine x_goto rfl ?_
  refine x_iload_n rfl rfl ?_
  refine x_bipush rfl ?_
  refine x_icmp_ge rfl (fun c => ?_) (fun c => ?_)
  · exact absurd c (by decide)
  refine x_aload_n rfl rfl ?_
  refine x_getR (u := .ref _) rfl rfl rfl rfl ?_
  refine x_iload_n rfl rfl ?_
  refine x_aload_n rfl rfl ?_
  refine x_getE (y := 32) (u := 0) rfl rfl rfl (hF.at (by decide) rfl : VI 74 32 = 0) ?_
  refine x_imul rfl ?_
  refine x_lit (b := 0) (by decide) ?_
  refine x_iload_n rfl rfl ?_
  refine x_iadd rfl ?_
  refine x_lit (b := 23) (by decide) ?_
  refine x_aload_n rfl rfl ?_
  refine x_getR (u := .ref _) rfl rfl rfl rfl ?_
  refine x_iload_n rfl rfl ?_
  refine x_ialE (j := 23) (u := 0) rfl rfl rfl (by decide) (hF.at (by decide) rfl : VI 76 23 = 0) ?_
  refine x_iasN (j := 23) rfl rfl rfl (by decide) ?_
  refine x_iinc (ls' := [_, _, _, _]) rfl rfl rfl rfl ?_
  refine x_goto rfl ?_
  refine x_iload_n rfl rfl ?_
  refine x_bipush rfl ?_
  refine x_icmp_ge rfl (fun c => ?_) (fun c => ?_)
  · exact absurd c (by decide)
  refine x_aload_n rfl rfl ?_
  refine x_getR (u := .ref _) rfl rfl rfl rfl ?_
  refine x_iload_n rfl rfl ?_
  refine x_aload_n rfl rfl ?_
  refine x_getE (y := 32) (u := 0) rfl rfl rfl (hF.at (by decide) rfl : VI 74 32 = 0) ?_
  refine x_imul rfl ?_
  refine x_lit (b := 0) (by decide) ?_
  refine x_iload_n rfl rfl ?_
  refine x_iadd rfl ?_
  refine x_lit (b := 24) (by decide) ?_
  refine x_aload_n rfl rfl ?_
  refine x_getR (u := .ref _) rfl rfl rfl rfl ?_
  refine x_iload_n rfl rfl ?_
  refine x_ialE (j := 24) (u := 0) rfl rfl rfl (by decide) (hF.at (by decide) rfl : VI 76 24 = 0) ?_
  refine x_iasN (j := 24) rfl rfl rfl (by decide) ?_
  refine x_iinc (ls' := [_, _, _, _]) rfl rfl rfl rfl ?_
  refine x_goto rfl ?_
  refine x_iload_n rfl rfl ?_
  refine x_bipush rfl ?_
  refine x_icmp_ge rfl (fun c => ?_) (fun c => ?_)
  · exact absurd c (by decide)
  refine x_aload_n rfl rfl ?_
  refine x_getR (u := .ref _) rfl rfl rfl rfl ?_
  refine x_iload_n rfl rfl ?_
  refine x_aload_n rfl rfl ?_
  refine x_getE (y := 32) (u := 0) rfl rfl rfl (hF.at (by decide) rfl : VI 74 32 = 0) ?_
  refine x_imul rfl ?_
  refine x_lit (b := 0) (by decide) ?_
  refine x_iload_n rfl rfl ?_
  refine x_iadd rfl ?_
  refine x_lit (b := 25) (by decide) ?_
  refine x_aload_n rfl rfl ?_
  refine x_getR (u := .ref _) rfl rfl rfl rfl ?_
  refine x_iload_n rfl rfl ?_
  refine x_ialE (j := 25) (u := 0) rfl rfl rfl (by decide) (hF.at (by decide) rfl : VI 76 25 = 0) ?_
  refine x_iasN (j := 25) rfl rfl rfl (by decide) ?_
  refine x_iinc (ls' := [_, _, _, _]) rfl rfl rfl rfl ?_
  refine x_goto rfl ?_
  refine x_iload_n rfl rfl ?_
  refine x_bipush rfl ?_
  refine x_icmp_ge rfl (fun c => ?_) (fun c => ?_)
  · exact absurd c (by decide)
  refine x_aload_n rfl rfl ?_
  refine x_getR (u := .ref _) rfl rfl rfl rfl ?_
  refine x_iload_n rfl rfl ?_
  refine x_aload_n rfl rfl ?_
  refine x_getE (y := 32) (u := 0) rfl rfl rfl (hF.at (by decide) rfl : VI 74 32 = 0) ?_
  refine x_imul rfl ?_
  refine x_lit (b := 0) (by decide) ?_
  refine x_iload_n rfl rfl ?_
  refine x_iadd rfl ?_
  refine x_lit (b := 26) (by decide) ?_
  refine x_aload_n rfl rfl ?_
  refine x_getR (u := .ref _) rfl rfl rfl rfl ?_
  refine x_iload_n rfl rfl ?_
  refine x_ialE (j := 26) (u := 0) rfl rfl rfl (by decide) (hF.at (by decide) rfl : VI 76 26 = 0) ?_
  refine x_iasN (j := 26) rfl rfl rfl (by decide) ?_
  refine x_iinc (ls' := [_, _, _, _]) rfl rfl rfl rfl ?_
  refine x_goto rfl ?_
  refine x_iload_n rfl rfl ?_
  refine x_bipush rfl ?_
  refine x_icmp_ge rfl (fun c => ?_) (fun c => ?_)
  · exact absurd c (by decide)
  refine x_aload_n rfl rfl ?_
  refine x_getR (u := .ref _) rfl rfl rfl rfl ?_
  refine x_iload_n rfl rfl ?_
  refine x_aload_n rfl rfl ?_
  refine x_getE (y := 32) (u := 0) rfl rfl rfl (hF.at (by decide) rfl : VI 74 32 = 0) ?_
  refine x_imul rfl ?_
  refine x_lit (b := 0) (by decide) ?_
  refine x_iload_n rfl rfl ?_
  refine x_iadd rfl ?_
  refine x_lit (b := 27) (by decide) ?_
  refine x_aload_n rfl rfl ?_
  refine x_getR (u := .ref _) rfl rfl rfl rfl ?_
  refine x_iload_n rfl rfl ?_
  refine x_ialE (j := 27) (u := 0) rfl rfl rfl (by decide) (hF.at (by decide) rfl : VI 76 27 = 0) ?_
  refine x_iasN (j := 27) rfl rfl rfl (by decide) ?_
  refine x_iinc (ls' := [_, _, _, _]) rfl rfl rfl rfl ?_
  refine x_goto rfl ?_
  refine x_iload_n rfl rfl ?_
  refine x_bipush rfl ?_
  refine x_icmp_ge rfl (fun c => ?_) (fun c => ?_)
  · exact absurd c (by decide)
  refine x_aload_n rfl rfl ?_
  refine x_getR (u := .ref _) rfl rfl rfl rfl ?_
  refine x_iload_n rfl rfl ?_
  refine x_aload_n rfl rfl ?_
  refine x_getE (y := 32) (u := 0) rfl rfl rfl (hF.at (by decide) rfl : VI 74 32 = 0) ?_
  refine x_imul rfl ?_
  refine x_lit (b := 0) (by decide) ?_
  refine x_iload_n rfl rfl ?_
  refine x_iadd rfl ?_
  refine x_lit (b := 28) (by decide) ?_
  refine x_aload_n rfl rfl ?_
  refine x_getR (u := .ref _) rfl rfl rfl rfl ?_
  refine x_iload_n rfl rfl ?_
  refine x_ialE (j := 28) (u := 0) rfl rfl rfl (by decide) (hF.at (by decide) rfl : VI 76 28 = 0) ?_
  refine x_iasN (j := 28) rfl rfl rfl (by decide) ?_
  refine x_iinc (ls' := [_, _, _, _]) rfl rfl rfl rfl ?_
  refine x_goto rfl ?_
  refine x_iload_n rfl rfl ?_
  refine x_bipush rfl ?_
  refine x_icmp_ge rfl (fun c => ?_) (fun c => ?_)
  · exact absurd c (by decide)
  refine x_aload_n rfl rfl ?_
  refine x_getR (u := .ref _) rfl rfl rfl rfl ?_
  refine x_iload_n rfl rfl ?_
  refine x_aload_n rfl rfl ?_
  refine x_getE (y := 32) (u := 0) rfl rfl rfl (hF.at (by decide) rfl : VI 74 32 = 0) ?_
  refine x_imul rfl ?_
  refine x_lit (b := 0) (by decide) ?_
  refine x_iload_n rfl rfl ?_
  refine x_iadd rfl ?_
  refine x_lit (b := 29) (by decide) ?_
  refine x_aload_n rfl rfl ?_
  refine x_getR (u := .ref _) rfl rfl rfl rfl ?_
  refine x_iload_n rfl rfl ?_
  refine x_ialE (j := 29) (u := 0) rfl rfl rfl (by decide) (hF.at (by decide) rfl : VI 76 29 = 0) ?_
  refine x_iasN (j := 29) rfl rfl rfl (by decide) ?_
  refine x_iinc (ls' := [_, _, _, _]) rfl rfl rfl rfl ?_
  refine x_goto rfl ?_
  refine x_iload_n rfl rfl ?_
  refine x_bipush rfl ?_
  refine x_icmp_ge rfl (fun c => ?_) (fun c => ?_)
  · exact absurd c (by decide)
  refine x_aload_n rfl rfl ?_
  refine x_getR (u := .ref _) rfl rfl rfl rfl ?_
  refine x_iload_n rfl rfl ?_
  refine x_aload_n rfl rfl ?_
  refine x_getE (y := 32) (u := 0) rfl rfl rfl (hF.at (by decide) rfl : VI 74 32 = 0) ?_
  refine x_imul rfl ?_
  refine x_lit (b := 0) (by decide) ?_
  refine x_iload_n rfl rfl ?_
  refine x_iadd rfl ?_
  refine x_lit (b := 30) (by decide) ?_
  refine x_aload_n rfl rfl ?_
  refine x_getR (u := .ref _) rfl rfl rfl rfl ?_
  refine x_iload_n rfl rfl ?_
  refine x_ialE (j := 30) (u := 0) rfl rfl rfl (by decide) (hF.at (by decide) rfl : VI 76 30 = 0) ?_
  refine x_iasN (j := 30) rfl rfl rfl (by decide) ?_
  refine x_iinc (ls' := [_, _, _, _]) rfl rfl rfl rfl ?_
  refine x_goto rfl ?_
  refine x_iload_n rfl rfl ?_
  refine x_bipush rfl ?_
  refine x_icmp_ge rfl (fun c => ?_) (fun c => ?_)
  · exact absurd c (by decide)
  refine x_aload_n rfl rfl ?_
  refine x_getR (u := .ref _) rfl rfl rfl rfl ?_
  refine x_iload_n rfl rfl ?_
  refine x_aload_n rfl rfl ?_
  refine x_getE (y := 32) (u := 0) rfl rfl rfl (hF.at (by decide) rfl : VI 74 32 = 0) ?_
  refine x_imul rfl ?_
  refine x_lit (b := 0) (by decide) ?_
  refine x_iload_n rfl rfl ?_
  refine x_iadd rfl ?_
  refine x_lit (b := 31) (by decide) ?_
  refine x_aload_n rfl rfl ?_
  refine x_getR (u := .ref _) rfl rfl rfl rfl ?_
  refine x_iload_n rfl rfl ?_
  refine x_ialE (j := 31) (u := 0) rfl rfl rfl (by decide) (hF.at (by decide) rfl : VI 76 31 = 0) ?_
  refine x_iasN (j := 31) rfl rfl rfl (by decide) ?_
  refine x_iinc (ls' := [_, _, _, _]) rfl rfl rfl rfl ?_
  refine x_goto rfl ?_
  refine x_iload_n rfl rfl ?_
  refine x_bipush rfl ?_
  refine x_icmp_ge rfl (fun c => ?_) (fun c => ?_)
  · exact absurd c (by decide)
  refine x_aload_n rfl rfl ?_
  refine x_getR (u := .ref _) rfl rfl rfl rfl ?_
  refine x_iload_n rfl rfl ?_
  refine x_aload_n rfl rfl ?_
  refine x_getE (y := 32) (u := 0) rfl rfl rfl (hF.at (by decide) rfl : VI 74 32 = 0) ?_
  refine x_imul rfl ?_
  refine x_lit (b := 0) (by decide) ?_
  refine x_iload_n rfl rfl ?_
  refine x_iadd rfl ?_
  refine x_lit (b := 32) (by decide) ?_
  refine x_aload_n rfl rfl ?_
  refine x_getR (u := .ref _) rfl rfl rfl rfl ?_
  refine x_iload_n rfl rfl ?_
  refine x_ialE (j := 32) (u := 0) rfl rfl rfl (by decide) (hF.at (by decide) rfl : VI 76 32 = 0) ?_
  refine x_iasN (j := 32) rfl rfl rfl (by decide) ?_
  refine x_iinc (ls' := [_, _, _, _]) rfl rfl rfl rfl ?_
  refine x_goto rfl ?_
  refine x_iload_n rfl rfl ?_
  refine x_bipush rfl ?_
  refine x_icmp_ge rfl (fun c => ?_) (fun c => ?_)
  · exact absurd c (by decide)
  refine x_aload_n rfl rfl ?_
  refine x_getR (u := .ref _) rfl rfl rfl rfl ?_
  refine x_iload_n rfl rfl ?_
  refine x_aload_n rfl rfl ?_
  refine x_getE (y := 32) (u := 0) rfl rfl rfl (hF.at (by decide) rfl : VI 74 32 = 0) ?_
  refine x_imul rfl ?_
  refine x_lit (b := 0) (by decide) ?_
  refine x_iload_n rfl rfl ?_
  refine x_iadd rfl ?_
  refine x_lit (b := 33) (by decide) ?_
  refine x_aload_n rfl rfl ?_
  refine x_getR (u := .ref _) rfl rfl rfl rfl ?_
  refine x_iload_n rfl rfl ?_
  refine x_ialE (j := 33) (u := 0) rfl rfl rfl (by decide) (hF.at (by decide) rfl : VI 76 33 = 0) ?_
  refine x_iasN (j := 33) rfl rfl rfl (by decide) ?_
  refine x_iinc (ls' := [_, _, _, _]) rfl rfl rfl rfl ?_
  refine x_goto rfl ?_
  refine x_iload_n rfl rfl ?_
  refine x_bipush rfl ?_
  refine x_icmp_ge rfl (fun c => ?_) (fun c => ?_)
  · exact absurd c (by decide)
  refine x_aload_n rfl rfl ?_
  refine x_getR (u := .ref _) rfl rfl rfl rfl ?_
  refine x_iload_n rfl rfl ?_
  refine x_aload_n rfl rfl ?_
  refine x_getE (y := 32) (u := 0) rfl rfl rfl (hF.at (by decide) rfl : VI 74 32 = 0) ?_
  refine x_imul rfl ?_
  refine x_lit (b := 0) (by decide) ?_
  refine x_iload_n rfl rfl ?_
  refine x_iadd rfl ?_
  refine x_lit (b := 34) (by decide) ?_
  refine x_aload_n rfl rfl ?_
  refine x_getR (u := .ref _) rfl rfl rfl rfl ?_
  refine x_iload_n rfl rfl ?_
  refine x_ialE (j := 34) (u := 0) rfl rfl rfl (by decide) (hF.at (by decide) rfl : VI 76 34 = 0) ?_
  refine x_iasN (j := 34) rfl rfl rfl (by decide) ?_
  refine x_iinc (ls' := [_, _, _, _]) rfl rfl rfl rfl ?_
  refine x_goto rfl ?_
  refine x_iload_n rfl rfl ?_
  refine x_bipush rfl ?_
  refine x_icmp_ge rfl (fun c => ?_) (fun c => ?_)
  · exact absurd c (by decide)
  refine x_aload_n rfl rfl ?_
  refine x_getR (u := .ref _) rfl rfl rfl rfl ?_
  refine x_iload_n rfl rfl ?_
  refine x_aload_n rfl rfl ?_
  refine x_getE (y := 32) (u := 0) rfl rfl rfl (hF.at (by decide) rfl : VI 74 32 = 0) ?_
  refine x_imul rfl ?_
  refine x_lit (b := 0) (by decide) ?_
  refine x_iload_n rfl rfl ?_
  refine x_iadd rfl ?_
  refine x_lit (b := 35) (by decide) ?_
  refine x_aload_n rfl rfl ?_
  refine x_getR (u := .ref _) rfl rfl rfl rfl ?_
  refine x_iload_n rfl rfl ?_
  refine x_ialE (j := 35) (u := 0) rfl rfl rfl (by decide) (hF.at (by decide) rfl : VI 76 35 = 0) ?_
  refine x_iasN (j := 35) rfl rfl rfl (by decide) ?_
  refine x_iinc (ls' := [_, _, _, _]) rfl rfl rfl rfl ?_
  refine x_goto rfl ?_
  refine x_iload_n rfl rfl ?_
  refine x_bipush rfl ?_
  refine x_icmp_ge rfl (fun c => ?_) (fun c => ?_)
  · exact absurd c (by decide)
  refine x_aload_n rfl rfl ?_
  refine x_getR (u := .ref _) rfl rfl rfl rfl ?_
  refine x_iload_n rfl rfl ?_
  refine x_aload_n rfl rfl ?_
  refine x_getE (y := 32) (u := 0) rfl rfl rfl (hF.at (by decide) rfl : VI 74 32 = 0) ?_
  refine x_imul rfl ?_
  refine x_lit (b := 0) (by decide) ?_
  refine x_iload_n rfl rfl ?_
  refine x_iadd rfl ?_
  refine x_lit (b := 36) (by decide) ?_
  refine x_aload_n rfl rfl ?_
  refine x_getR (u := .ref _) rfl rfl rfl rfl ?_
  refine x_iload_n rfl rfl ?_
  refine x_ialE (j := 36) (u := 0) rfl rfl rfl (by decide) (hF.at (by decide) rfl : VI 76 36 = 0) ?_
  refine x_iasN (j := 36) rfl rfl rfl (by decide) ?_
  refine x_iinc (ls' := [_, _, _, _]) rfl rfl rfl rfl ?_
  refine x_goto rfl ?_
  refine x_iload_n rfl rfl ?_
  refine x_bipush rfl ?_
  refine x_icmp_ge rfl (fun c => ?_) (fun c => ?_)
  · exact absurd c (by decide)
  refine x_aload_n rfl rfl ?_
  refine x_getR (u := .ref _) rfl rfl rfl rfl ?_
  refine x_iload_n rfl rfl ?_
  refine x_aload_n rfl rfl ?_
  refine x_getE (y := 32) (u := 0) rfl rfl rfl (hF.at (by decide) rfl : VI 74 32 = 0) ?_
  refine x_imul rfl ?_
  refine x_lit (b := 0) (by decide) ?_
  refine x_iload_n rfl rfl ?_
  refine x_iadd rfl ?_
  refine x_lit (b := 37) (by decide) ?_
  refine x_aload_n rfl rfl ?_
  refine x_getR (u := .ref _) rfl rfl rfl rfl ?_
  refine x_iload_n rfl rfl ?_
  refine x_ialE (j := 37) (u := 0) rfl rfl rfl (by decide) (hF.at (by decide) rfl : VI 76 37 = 0) ?_
  refine x_iasN (j := 37) rfl rfl rfl (by decide) ?_
  refine x_iinc (ls' := [_, _, _, _]) rfl rfl rfl rfl ?_
  refine x_goto rfl ?_
  refine x_iload_n rfl rfl ?_
  refine x_bipush rfl ?_
  refine x_icmp_ge rfl (fun c => ?_) (fun c => ?_)
  · exact absurd c (by decide)
  refine x_aload_n rfl rfl ?_
  refine x_getR (u := .ref _) rfl rfl rfl rfl ?_
  refine x_iload_n rfl rfl ?_
  refine x_aload_n rfl rfl ?_
  refine x_getE (y := 32) (u := 0) rfl rfl rfl (hF.at (by decide) rfl : VI 74 32 = 0) ?_
  refine x_imul rfl ?_
  refine x_lit (b := 0) (by decide) ?_
  refine x_iload_n rfl rfl ?_
  refine x_iadd rfl ?_
  refine x_lit (b := 38) (by decide) ?_
  refine x_aload_n rfl rfl ?_
  refine x_getR (u := .ref _) rfl rfl rfl rfl ?_
  refine x_iload_n rfl rfl ?_
  refine x_ialE (j := 38) (u := 0) rfl rfl rfl (by decide) (hF.at (by decide) rfl : VI 76 38 = 0) ?_
  refine x_iasN (j := 38) rfl rfl rfl (by decide) ?_
  refine x_iinc (ls' := [_, _, _, _]) rfl rfl rfl rfl ?_
  refine x_goto rfl ?_
  refine x_iload_n rfl rfl ?_
  refine x_bipush rfl ?_
  refine x_icmp_ge rfl (fun c => ?_) (fun c => ?_)
  rotate_left
  · exact absurd c (by decide)
  refine x_aload_n rfl rfl ?_
  refine x_getR (u := .ref _) rfl rfl rfl rfl ?_
  refine x_iload_n rfl rfl ?_
  refine x_aload_n rfl rfl ?_
  refine x_getE (y := 32) (u := 0) rfl rfl rfl (hF.at (by decide) rfl : VI 74 32 = 0) ?_
  refine x_imul rfl ?_
  refine x_lit (b := 0) (by decide) ?_
  refine x_bipush rfl ?_
  refine x_iadd rfl ?_
  refine x_lit (b := 39) (by decide) ?_
  refine x_iload_n rfl rfl ?_
  refine x_iasN (j := 39) rfl rfl rfl (by decide) ?_
  refine x_aload_n rfl rfl ?_
  refine x_dup rfl rfl ?_
  refine x_getE (y := 32) (u := 0) rfl rfl rfl (hF.at (by decide) rfl : VI 74 32 = 0) ?_
  refine x_iconst rfl ?_
  refine x_iadd rfl ?_
  refine x_lit (b := 1) (by decide) ?_
  refine x_putI rfl rfl rfl rfl ?_
  refine x_vret rfl rfl ?_
  refine x_aload_n rfl rfl ?_
  refine x_getR (u := .ref _) rfl rfl rfl rfl ?_
  refine x_bipush rfl ?_
  refine x_dup2 rfl rfl rfl ?_
  refine x_ialE (j := 38) (u := 0) rfl rfl rfl (by decide) (hF.at (by decide) rfl : VI 76 38 = 0) ?_
  refine x_iconst rfl ?_
  refine x_iadd rfl ?_
  refine x_lit (b := 1) (by decide) ?_
  refine x_iasN (j := 38) rfl rfl rfl (by decide) ?_
  refine x_aload_n rfl rfl ?_
  refine x_getR (u := .ref _) rfl rfl rfl rfl ?_
  refine x_bipush rfl ?_
  refine x_ialE (j := 38) (u := 1) rfl rfl rfl (by decide) rfl ?_
  refine x_iret rfl rfl ?_
  refine x_callV (M' := mi237) (As := [_]) (bc1 := 0) (bs1 := 0) (bc2 := 0) (bs2 := 0) rfl rfl rfl rfl ok237 rfl rfl (by decide) rfl rfl rfl rfl rfl rfl ?_
  refine x_iload_n rfl rfl ?_
  refine x_if_ge rfl (fun c => ?_) (fun c => ?_)
  rotate_left
  · exact absurd c (by decide)
  refine x_aload_n rfl rfl ?_
  refine x_iload_n rfl rfl ?_
  refine x_callV (M' := mi155) (As := [_]) (bc1 := 0) (bs1 := 0) (bc2 := 0) (bs2 := 0) rfl rfl rfl rfl ok155 rfl rfl (by decide) rfl rfl rfl rfl rfl rfl ?_
  refine x_aload_n rfl rfl ?_
  refine x_iconst rfl ?_
  refine x_putI rfl rfl rfl rfl ?_
  refine x_iload_n rfl rfl ?_
  refine x_iret rfl rfl ?_
  refine x_iret rfl rfl ?_
  refine x_iret rfl rfl ?_
  exact hP _
set_option maxRecDepth 20000 in
set_option maxHeartbeats 8000000 in
theorem cm_undo {d : Nat} {P : Post} {VI : VIT} (hF : Fm VI) (hP : PM P (-3)) : Ex (d + 1) mi236 0 (entL [.ref 74] 3) [] (LY ++ []) VI ZL (vr ZR) 0 0 P := by
  refine x_aload_n rfl rfl ?_
  refine x_getE (y := 32) (u := 0) rfl rfl rfl (hF.at (by decide) rfl : VI 74 32 = 0) ?_
  refine x_if_ne rfl (fun c => ?_) (fun c => ?_)
  · exact absurd c (by decide)
  refine x_aload_n rfl rfl ?_
  refine x_bipush rfl ?_
  refine x_callV (M' := mi154) (As := [_]) (bc1 := 0) (bs1 := 0) (bc2 := 0) (bs2 := 0) rfl rfl rfl rfl ok154 rfl rfl (by decide) rfl rfl rfl rfl rfl rfl ?_
  refine x_aload_n rfl rfl ?_
  refine x_iload_n rfl rfl ?_
  refine x_putI rfl rfl rfl rfl ?_
  refine x_aload_n rfl rfl ?_
  refine x_getR (u := .ref _) rfl rfl rfl rfl ?_
  refine x_iload_n rfl rfl ?_
  refine x_ineg rfl ?_
  refine x_lit (b := 3) (by decide) ?_
  refine x_dup2 rfl rfl rfl ?_
  refine x_ialE (j := 3) (u := 0) rfl rfl rfl (by decide) (hF.at (by decide) rfl : VI 75 3 = 0) ?_
  refine x_iconst rfl ?_
  refine x_iadd rfl ?_
  refine x_lit (b := 1) (by decide) ?_
  refine x_iasN (j := 3) rfl rfl rfl (by decide) ?_
  refine x_iload_n rfl rfl ?_
  refine x_iret rfl rfl ?_
  refine x_iret rfl rfl ?_
  exact hP _
set_option maxRecDepth 20000 in
set_option maxHeartbeats 8000000 in
theorem cx_feed {d : Nat} {P : Post} {a1 a2 a3 a4 a5 : Int32} (hP : PX P 20) : Ex (d + 1) mi114 0 (entL [.ref 0, .int a1, .int a2, .int a3, .int a4, .int a5] 6) [] (LY ++ []) VIm ZL (vr ZR) 0 0 P := by
  refine x_aload_n rfl rfl ?_
  refine x_getE (y := 13) (u := 0) rfl rfl rfl rfl ?_
  refine x_bipush rfl ?_
  refine x_iadd rfl ?_
  refine x_lit (b := 20) (by decide) ?_
  refine x_sipush rfl ?_
  refine x_icmp_le rfl (fun c => ?_) (fun c => ?_)
  rotate_left
  · exact absurd c (by decide)
  refine x_aload_n rfl rfl ?_
  refine x_iload_n rfl rfl ?_
  refine x_callV (M' := mi147) (As := [_]) (bc1 := 0) (bs1 := 0) (bc2 := 0) (bs2 := 0) rfl rfl rfl rfl ok147 rfl rfl (by decide) rfl rfl rfl rfl rfl rfl ?_
  refine x_bipush rfl ?_
  refine x_istore_n (ls' := [_, _, _]) rfl rfl rfl ?_
  refine x_iload_n rfl rfl ?_
  refine x_if_lt rfl (fun c => ?_) (fun c => ?_)
  · exact absurd c (by decide)
  refine x_aload_n rfl rfl ?_
  refine x_getE (y := 13) (u := 0) rfl rfl rfl rfl ?_
  refine x_sipush rfl ?_
  refine x_icmp_ge rfl (fun c => ?_) (fun c => ?_)
  · exact absurd c (by decide)
  refine x_aload_n rfl rfl ?_
  refine x_getR (u := .ref _) rfl rfl rfl rfl ?_
  refine x_aload_n rfl rfl ?_
  refine x_getE (y := 13) (u := 0) rfl rfl rfl rfl ?_
  refine x_iload_n rfl rfl ?_
  refine x_iload_n rfl rfl ?_
  refine x_iushr rfl ?_
  refine x_sipush rfl ?_
  refine x_iand rfl ?_
  refine x_iasN (j := 0) rfl rfl rfl (by decide) ?_
  refine x_aload_n rfl rfl ?_
  refine x_dup rfl rfl ?_
  refine x_getE (y := 13) (u := 0) rfl rfl rfl rfl ?_
  refine x_iconst rfl ?_
  refine x_iadd rfl ?_
  refine x_lit (b := 1) (by decide) ?_
  refine x_putI rfl rfl rfl rfl ?_
  refine x_iinc (ls' := [_, _, _]) rfl rfl rfl rfl ?_
  refine x_goto rfl ?_
  refine x_iload_n rfl rfl ?_
  refine x_if_lt rfl (fun c => ?_) (fun c => ?_)
  · exact absurd c (by decide)
  refine x_aload_n rfl rfl ?_
  refine x_getE (y := 13) (u := 1) rfl rfl rfl rfl ?_
  refine x_sipush rfl ?_
  refine x_icmp_ge rfl (fun c => ?_) (fun c => ?_)
  · exact absurd c (by decide)
  refine x_aload_n rfl rfl ?_
  refine x_getR (u := .ref _) rfl rfl rfl rfl ?_
  refine x_aload_n rfl rfl ?_
  refine x_getE (y := 13) (u := 1) rfl rfl rfl rfl ?_
  refine x_iload_n rfl rfl ?_
  refine x_iload_n rfl rfl ?_
  refine x_iushr rfl ?_
  refine x_sipush rfl ?_
  refine x_iand rfl ?_
  refine x_iasN (j := 1) rfl rfl rfl (by decide) ?_
  refine x_aload_n rfl rfl ?_
  refine x_dup rfl rfl ?_
  refine x_getE (y := 13) (u := 1) rfl rfl rfl rfl ?_
  refine x_iconst rfl ?_
  refine x_iadd rfl ?_
  refine x_lit (b := 2) (by decide) ?_
  refine x_putI rfl rfl rfl rfl ?_
  refine x_iinc (ls' := [_, _, _]) rfl rfl rfl rfl ?_
  refine x_goto rfl ?_
  refine x_iload_n rfl rfl ?_
  refine x_if_lt rfl (fun c => ?_) (fun c => ?_)
  · exact absurd c (by decide)
  refine x_aload_n rfl rfl ?_
  refine x_getE (y := 13) (u := 2) rfl rfl rfl rfl ?_
  refine x_sipush rfl ?_
  refine x_icmp_ge rfl (fun c => ?_) (fun c => ?_)
  · exact absurd c (by decide)
  refine x_aload_n rfl rfl ?_
  refine x_getR (u := .ref _) rfl rfl rfl rfl ?_
  refine x_aload_n rfl rfl ?_
  refine x_getE (y := 13) (u := 2) rfl rfl rfl rfl ?_
  refine x_iload_n rfl rfl ?_
  refine x_iload_n rfl rfl ?_
  refine x_iushr rfl ?_
  refine x_sipush rfl ?_
  refine x_iand rfl ?_
  refine x_iasN (j := 2) rfl rfl rfl (by decide) ?_
  refine x_aload_n rfl rfl ?_
  refine x_dup rfl rfl ?_
  refine x_getE (y := 13) (u := 2) rfl rfl rfl rfl ?_
  refine x_iconst rfl ?_
  refine x_iadd rfl ?_
  refine x_lit (b := 3) (by decide) ?_
  refine x_putI rfl rfl rfl rfl ?_
  refine x_iinc (ls' := [_, _, _]) rfl rfl rfl rfl ?_
  refine x_goto rfl ?_
  refine x_iload_n rfl rfl ?_
  refine x_if_lt rfl (fun c => ?_) (fun c => ?_)
  · exact absurd c (by decide)
  refine x_aload_n rfl rfl ?_
  refine x_getE (y := 13) (u := 3) rfl rfl rfl rfl ?_
  refine x_sipush rfl ?_
  refine x_icmp_ge rfl (fun c => ?_) (fun c => ?_)
  · exact absurd c (by decide)
  refine x_aload_n rfl rfl ?_
  refine x_getR (u := .ref _) rfl rfl rfl rfl ?_
  refine x_aload_n rfl rfl ?_
  refine x_getE (y := 13) (u := 3) rfl rfl rfl rfl ?_
  refine x_iload_n rfl rfl ?_
  refine x_iload_n rfl rfl ?_
  refine x_iushr rfl ?_
  refine x_sipush rfl ?_
  refine x_iand rfl ?_
  refine x_iasN (j := 3) rfl rfl rfl (by decide) ?_
  refine x_aload_n rfl rfl ?_
  refine x_dup rfl rfl ?_
  refine x_getE (y := 13) (u := 3) rfl rfl rfl rfl ?_
  refine x_iconst rfl ?_
  refine x_iadd rfl ?_
  refine x_lit (b := 4) (by decide) ?_
  refine x_putI rfl rfl rfl rfl ?_
  refine x_iinc (ls' := [_, _, _]) rfl rfl rfl rfl ?_
  refine x_goto rfl ?_
  refine x_iload_n rfl rfl ?_
  refine x_if_lt rfl (fun c => ?_) (fun c => ?_)
  rotate_left
  · exact absurd c (by decide)
  refine x_vret rfl rfl ?_
  refine x_aload_n rfl rfl ?_
  refine x_iload_n rfl rfl ?_
  refine x_callV (M' := mi147) (As := [_]) (bc1 := 0) (bs1 := 0) (bc2 := 0) (bs2 := 0) rfl rfl rfl rfl ok147 rfl rfl (by decide) rfl rfl rfl rfl rfl rfl ?_
  refine x_bipush rfl ?_
  refine x_istore_n (ls' := [_, _, _]) rfl rfl rfl ?_
  refine x_iload_n rfl rfl ?_
  refine x_if_lt rfl (fun c => ?_) (fun c => ?_)
  · exact absurd c (by decide)
  refine x_aload_n rfl rfl ?_
  refine x_getE (y := 13) (u := 4) rfl rfl rfl rfl ?_
  refine x_sipush rfl ?_
  refine x_icmp_ge rfl (fun c => ?_) (fun c => ?_)
  · exact absurd c (by decide)
  refine x_aload_n rfl rfl ?_
  refine x_getR (u := .ref _) rfl rfl rfl rfl ?_
  refine x_aload_n rfl rfl ?_
  refine x_getE (y := 13) (u := 4) rfl rfl rfl rfl ?_
  refine x_iload_n rfl rfl ?_
  refine x_iload_n rfl rfl ?_
  refine x_iushr rfl ?_
  refine x_sipush rfl ?_
  refine x_iand rfl ?_
  refine x_iasN (j := 4) rfl rfl rfl (by decide) ?_
  refine x_aload_n rfl rfl ?_
  refine x_dup rfl rfl ?_
  refine x_getE (y := 13) (u := 4) rfl rfl rfl rfl ?_
  refine x_iconst rfl ?_
  refine x_iadd rfl ?_
  refine x_lit (b := 5) (by decide) ?_
  refine x_putI rfl rfl rfl rfl ?_
  refine x_iinc (ls' := [_, _, _]) rfl rfl rfl rfl ?_
  refine x_goto rfl ?_
  refine x_iload_n rfl rfl ?_
  refine x_if_lt rfl (fun c => ?_) (fun c => ?_)
  · exact absurd c (by decide)
  refine x_aload_n rfl rfl ?_
  refine x_getE (y := 13) (u := 5) rfl rfl rfl rfl ?_
  refine x_sipush rfl ?_
  refine x_icmp_ge rfl (fun c => ?_) (fun c => ?_)
  · exact absurd c (by decide)
  refine x_aload_n rfl rfl ?_
  refine x_getR (u := .ref _) rfl rfl rfl rfl ?_
  refine x_aload_n rfl rfl ?_
  refine x_getE (y := 13) (u := 5) rfl rfl rfl rfl ?_
  refine x_iload_n rfl rfl ?_
  refine x_iload_n rfl rfl ?_
  refine x_iushr rfl ?_
  refine x_sipush rfl ?_
  refine x_iand rfl ?_
  refine x_iasN (j := 5) rfl rfl rfl (by decide) ?_
  refine x_aload_n rfl rfl ?_
  refine x_dup rfl rfl ?_
  refine x_getE (y := 13) (u := 5) rfl rfl rfl rfl ?_
  refine x_iconst rfl ?_
  refine x_iadd rfl ?_
  refine x_lit (b := 6) (by decide) ?_
  refine x_putI rfl rfl rfl rfl ?_
  refine x_iinc (ls' := [_, _, _]) rfl rfl rfl rfl ?_
  refine x_goto rfl ?_
  refine x_iload_n rfl rfl ?_
  refine x_if_lt rfl (fun c => ?_) (fun c => ?_)
  · exact absurd c (by decide)
  refine x_aload_n rfl rfl ?_
  refine x_getE (y := 13) (u := 6) rfl rfl rfl rfl ?_
  refine x_sipush rfl ?_
  refine x_icmp_ge rfl (fun c => ?_) (fun c => ?_)
  · exact absurd c (by decide)
  refine x_aload_n rfl rfl ?_
  refine x_getR (u := .ref _) rfl rfl rfl rfl ?_
  refine x_aload_n rfl rfl ?_
  refine x_getE (y := 13) (u := 6) rfl rfl rfl rfl ?_
  refine x_iload_n rfl rfl ?_
  refine x_iload_n rfl rfl ?_
  refine x_iushr rfl ?_
  refine x_sipush rfl ?_
  refine x_iand rfl ?_
  refine x_iasN (j := 6) rfl rfl rfl (by decide) ?_
  refine x_aload_n rfl rfl ?_
  refine x_dup rfl rfl ?_
  refine x_getE (y := 13) (u := 6) rfl rfl rfl rfl ?_
  refine x_iconst rfl ?_
  refine x_iadd rfl ?_
  refine x_lit (b := 7) (by decide) ?_
  refine x_putI rfl rfl rfl rfl ?_
  refine x_iinc (ls' := [_, _, _]) rfl rfl rfl rfl ?_
  refine x_goto rfl ?_
  refine x_iload_n rfl rfl ?_
  refine x_if_lt rfl (fun c => ?_) (fun c => ?_)
  · exact absurd c (by decide)
  refine x_aload_n rfl rfl ?_
  refine x_getE (y := 13) (u := 7) rfl rfl rfl rfl ?_
  refine x_sipush rfl ?_
  refine x_icmp_ge rfl (fun c => ?_) (fun c => ?_)
  · exact absurd c (by decide)
  refine x_aload_n rfl rfl ?_
  refine x_getR (u := .ref _) rfl rfl rfl rfl ?_
  refine x_aload_n rfl rfl ?_
  refine x_getE (y := 13) (u := 7) rfl rfl rfl rfl ?_
  refine x_iload_n rfl rfl ?_
  refine x_iload_n rfl rfl ?_
  refine x_iushr rfl ?_
  refine x_sipush rfl ?_
  refine x_iand rfl ?_
  refine x_iasN (j := 7) rfl rfl rfl (by decide) ?_
  refine x_aload_n rfl rfl ?_
  refine x_dup rfl rfl ?_
  refine x_getE (y := 13) (u := 7) rfl rfl rfl rfl ?_
  refine x_iconst rfl ?_
  refine x_iadd rfl ?_
  refine x_lit (b := 8) (by decide) ?_
  refine x_putI rfl rfl rfl rfl ?_
  refine x_iinc (ls' := [_, _, _]) rfl rfl rfl rfl ?_
  refine x_goto rfl ?_
  refine x_iload_n rfl rfl ?_
  refine x_if_lt rfl (fun c => ?_) (fun c => ?_)
  rotate_left
  · exact absurd c (by decide)
  refine x_vret rfl rfl ?_
  refine x_aload_n rfl rfl ?_
  refine x_iload_n rfl rfl ?_
  refine x_callV (M' := mi147) (As := [_]) (bc1 := 0) (bs1 := 0) (bc2 := 0) (bs2 := 0) rfl rfl rfl rfl ok147 rfl rfl (by decide) rfl rfl rfl rfl rfl rfl ?_
  refine x_bipush rfl ?_
  refine x_istore_n (ls' := [_, _, _]) rfl rfl rfl ?_
  refine x_iload_n rfl rfl ?_
  refine x_if_lt rfl (fun c => ?_) (fun c => ?_)
  · exact absurd c (by decide)
  refine x_aload_n rfl rfl ?_
  refine x_getE (y := 13) (u := 8) rfl rfl rfl rfl ?_
  refine x_sipush rfl ?_
  refine x_icmp_ge rfl (fun c => ?_) (fun c => ?_)
  · exact absurd c (by decide)
  refine x_aload_n rfl rfl ?_
  refine x_getR (u := .ref _) rfl rfl rfl rfl ?_
  refine x_aload_n rfl rfl ?_
  refine x_getE (y := 13) (u := 8) rfl rfl rfl rfl ?_
  refine x_iload_n rfl rfl ?_
  refine x_iload_n rfl rfl ?_
  refine x_iushr rfl ?_
  refine x_sipush rfl ?_
  refine x_iand rfl ?_
  refine x_iasN (j := 8) rfl rfl rfl (by decide) ?_
  refine x_aload_n rfl rfl ?_
  refine x_dup rfl rfl ?_
  refine x_getE (y := 13) (u := 8) rfl rfl rfl rfl ?_
  refine x_iconst rfl ?_
  refine x_iadd rfl ?_
  refine x_lit (b := 9) (by decide) ?_
  refine x_putI rfl rfl rfl rfl ?_
  refine x_iinc (ls' := [_, _, _]) rfl rfl rfl rfl ?_
  refine x_goto rfl ?_
  refine x_iload_n rfl rfl ?_
  refine x_if_lt rfl (fun c => ?_) (fun c => ?_)
  · exact absurd c (by decide)
  refine x_aload_n rfl rfl ?_
  refine x_getE (y := 13) (u := 9) rfl rfl rfl rfl ?_
  refine x_sipush rfl ?_
  refine x_icmp_ge rfl (fun c => ?_) (fun c => ?_)
  · exact absurd c (by decide)
  refine x_aload_n rfl rfl ?_
  refine x_getR (u := .ref _) rfl rfl rfl rfl ?_
  refine x_aload_n rfl rfl ?_
  refine x_getE (y := 13) (u := 9) rfl rfl rfl rfl ?_
  refine x_iload_n rfl rfl ?_
  refine x_iload_n rfl rfl ?_
  refine x_iushr rfl ?_
  refine x_sipush rfl ?_
  refine x_iand rfl ?_
  refine x_iasN (j := 9) rfl rfl rfl (by decide) ?_
  refine x_aload_n rfl rfl ?_
  refine x_dup rfl rfl ?_
  refine x_getE (y := 13) (u := 9) rfl rfl rfl rfl ?_
  refine x_iconst rfl ?_
  refine x_iadd rfl ?_
  refine x_lit (b := 10) (by decide) ?_
  refine x_putI rfl rfl rfl rfl ?_
  refine x_iinc (ls' := [_, _, _]) rfl rfl rfl rfl ?_
  refine x_goto rfl ?_
  refine x_iload_n rfl rfl ?_
  refine x_if_lt rfl (fun c => ?_) (fun c => ?_)
  · exact absurd c (by decide)
  refine x_aload_n rfl rfl ?_
  refine x_getE (y := 13) (u := 10) rfl rfl rfl rfl ?_
  refine x_sipush rfl ?_
  refine x_icmp_ge rfl (fun c => ?_) (fun c => ?_)
  · exact absurd c (by decide)
  refine x_aload_n rfl rfl ?_
  refine x_getR (u := .ref _) rfl rfl rfl rfl ?_
  refine x_aload_n rfl rfl ?_
  refine x_getE (y := 13) (u := 10) rfl rfl rfl rfl ?_
  refine x_iload_n rfl rfl ?_
  refine x_iload_n rfl rfl ?_
  refine x_iushr rfl ?_
  refine x_sipush rfl ?_
  refine x_iand rfl ?_
  refine x_iasN (j := 10) rfl rfl rfl (by decide) ?_
  refine x_aload_n rfl rfl ?_
  refine x_dup rfl rfl ?_
  refine x_getE (y := 13) (u := 10) rfl rfl rfl rfl ?_
  refine x_iconst rfl ?_
  refine x_iadd rfl ?_
  refine x_lit (b := 11) (by decide) ?_
  refine x_putI rfl rfl rfl rfl ?_
  refine x_iinc (ls' := [_, _, _]) rfl rfl rfl rfl ?_
  refine x_goto rfl ?_
  refine x_iload_n rfl rfl ?_
  refine x_if_lt rfl (fun c => ?_) (fun c => ?_)
  · exact absurd c (by decide)
  refine x_aload_n rfl rfl ?_
  refine x_getE (y := 13) (u := 11) rfl rfl rfl rfl ?_
  refine x_sipush rfl ?_
  refine x_icmp_ge rfl (fun c => ?_) (fun c => ?_)
  · exact absurd c (by decide)
  refine x_aload_n rfl rfl ?_
  refine x_getR (u := .ref _) rfl rfl rfl rfl ?_
  refine x_aload_n rfl rfl ?_
  refine x_getE (y := 13) (u := 11) rfl rfl rfl rfl ?_
  refine x_iload_n rfl rfl ?_
  refine x_iload_n rfl rfl ?_
  refine x_iushr rfl ?_
  refine x_sipush rfl ?_
  refine x_iand rfl ?_
  refine x_iasN (j := 11) rfl rfl rfl (by decide) ?_
  refine x_aload_n rfl rfl ?_
  refine x_dup rfl rfl ?_
  refine x_getE (y := 13) (u := 11) rfl rfl rfl rfl ?_
  refine x_iconst rfl ?_
  refine x_iadd rfl ?_
  refine x_lit (b := 12) (by decide) ?_
  refine x_putI rfl rfl rfl rfl ?_
  refine x_iinc (ls' := [_, _, _]) rfl rfl rfl rfl ?_
  refine x_goto rfl ?_
  refine x_iload_n rfl rfl ?_
  refine x_if_lt rfl (fun c => ?_) (fun c => ?_)
  rotate_left
  · exact absurd c (by decide)
  refine x_vret rfl rfl ?_
  refine x_aload_n rfl rfl ?_
  refine x_iload rfl rfl ?_
  refine x_callV (M' := mi147) (As := [_]) (bc1 := 0) (bs1 := 0) (bc2 := 0) (bs2 := 0) rfl rfl rfl rfl ok147 rfl rfl (by decide) rfl rfl rfl rfl rfl rfl ?_
  refine x_bipush rfl ?_
  refine x_istore_n (ls' := [_, _, _]) rfl rfl rfl ?_
  refine x_iload_n rfl rfl ?_
  refine x_if_lt rfl (fun c => ?_) (fun c => ?_)
  · exact absurd c (by decide)
  refine x_aload_n rfl rfl ?_
  refine x_getE (y := 13) (u := 12) rfl rfl rfl rfl ?_
  refine x_sipush rfl ?_
  refine x_icmp_ge rfl (fun c => ?_) (fun c => ?_)
  · exact absurd c (by decide)
  refine x_aload_n rfl rfl ?_
  refine x_getR (u := .ref _) rfl rfl rfl rfl ?_
  refine x_aload_n rfl rfl ?_
  refine x_getE (y := 13) (u := 12) rfl rfl rfl rfl ?_
  refine x_iload_n rfl rfl ?_
  refine x_iload_n rfl rfl ?_
  refine x_iushr rfl ?_
  refine x_sipush rfl ?_
  refine x_iand rfl ?_
  refine x_iasN (j := 12) rfl rfl rfl (by decide) ?_
  refine x_aload_n rfl rfl ?_
  refine x_dup rfl rfl ?_
  refine x_getE (y := 13) (u := 12) rfl rfl rfl rfl ?_
  refine x_iconst rfl ?_
  refine x_iadd rfl ?_
  refine x_lit (b := 13) (by decide) ?_
  refine x_putI rfl rfl rfl rfl ?_
  refine x_iinc (ls' := [_, _, _]) rfl rfl rfl rfl ?_
  refine x_goto rfl ?_
  refine x_iload_n rfl rfl ?_
  refine x_if_lt rfl (fun c => ?_) (fun c => ?_)
  · exact absurd c (by decide)
  refine x_aload_n rfl rfl ?_
  refine x_getE (y := 13) (u := 13) rfl rfl rfl rfl ?_
  refine x_sipush rfl ?_
  refine x_icmp_ge rfl (fun c => ?_) (fun c => ?_)
  · exact absurd c (by decide)
  refine x_aload_n rfl rfl ?_
  refine x_getR (u := .ref _) rfl rfl rfl rfl ?_
  refine x_aload_n rfl rfl ?_
  refine x_getE (y := 13) (u := 13) rfl rfl rfl rfl ?_
  refine x_iload_n rfl rfl ?_
  refine x_iload_n rfl rfl ?_
  refine x_iushr rfl ?_
  refine x_sipush rfl ?_
  refine x_iand rfl ?_
  refine x_iasN (j := 13) rfl rfl rfl (by decide) ?_
  refine x_aload_n rfl rfl ?_
  refine x_dup rfl rfl ?_
  refine x_getE (y := 13) (u := 13) rfl rfl rfl rfl ?_
  refine x_iconst rfl ?_
  refine x_iadd rfl ?_
  refine x_lit (b := 14) (by decide) ?_
  refine x_putI rfl rfl rfl rfl ?_
  refine x_iinc (ls' := [_, _, _]) rfl rfl rfl rfl ?_
  refine x_goto rfl ?_
  refine x_iload_n rfl rfl ?_
  refine x_if_lt rfl (fun c => ?_) (fun c => ?_)
  · exact absurd c (by decide)
  refine x_aload_n rfl rfl ?_
  refine x_getE (y := 13) (u := 14) rfl rfl rfl rfl ?_
  refine x_sipush rfl ?_
  refine x_icmp_ge rfl (fun c => ?_) (fun c => ?_)
  · exact absurd c (by decide)
  refine x_aload_n rfl rfl ?_
  refine x_getR (u := .ref _) rfl rfl rfl rfl ?_
  refine x_aload_n rfl rfl ?_
  refine x_getE (y := 13) (u := 14) rfl rfl rfl rfl ?_
  refine x_iload_n rfl rfl ?_
  refine x_iload_n rfl rfl ?_
  refine x_iushr rfl ?_
  refine x_sipush rfl ?_
  refine x_iand rfl ?_
  refine x_iasN (j := 14) rfl rfl rfl (by decide) ?_
  refine x_aload_n rfl rfl ?_
  refine x_dup rfl rfl ?_
  refine x_getE (y := 13) (u := 14) rfl rfl rfl rfl ?_
  refine x_iconst rfl ?_
  refine x_iadd rfl ?_
  refine x_lit (b := 15) (by decide) ?_
  refine x_putI rfl rfl rfl rfl ?_
  refine x_iinc (ls' := [_, _, _]) rfl rfl rfl rfl ?_
  refine x_goto rfl ?_
  refine x_iload_n rfl rfl ?_
  refine x_if_lt rfl (fun c => ?_) (fun c => ?_)
  · exact absurd c (by decide)
  refine x_aload_n rfl rfl ?_
  refine x_getE (y := 13) (u := 15) rfl rfl rfl rfl ?_
  refine x_sipush rfl ?_
  refine x_icmp_ge rfl (fun c => ?_) (fun c => ?_)
  · exact absurd c (by decide)
  refine x_aload_n rfl rfl ?_
  refine x_getR (u := .ref _) rfl rfl rfl rfl ?_
  refine x_aload_n rfl rfl ?_
  refine x_getE (y := 13) (u := 15) rfl rfl rfl rfl ?_
  refine x_iload_n rfl rfl ?_
  refine x_iload_n rfl rfl ?_
  refine x_iushr rfl ?_
  refine x_sipush rfl ?_
  refine x_iand rfl ?_
  refine x_iasN (j := 15) rfl rfl rfl (by decide) ?_
  refine x_aload_n rfl rfl ?_
  refine x_dup rfl rfl ?_
  refine x_getE (y := 13) (u := 15) rfl rfl rfl rfl ?_
  refine x_iconst rfl ?_
  refine x_iadd rfl ?_
  refine x_lit (b := 16) (by decide) ?_
  refine x_putI rfl rfl rfl rfl ?_
  refine x_iinc (ls' := [_, _, _]) rfl rfl rfl rfl ?_
  refine x_goto rfl ?_
  refine x_iload_n rfl rfl ?_
  refine x_if_lt rfl (fun c => ?_) (fun c => ?_)
  rotate_left
  · exact absurd c (by decide)
  refine x_vret rfl rfl ?_
  refine x_aload_n rfl rfl ?_
  refine x_iload rfl rfl ?_
  refine x_callV (M' := mi147) (As := [_]) (bc1 := 0) (bs1 := 0) (bc2 := 0) (bs2 := 0) rfl rfl rfl rfl ok147 rfl rfl (by decide) rfl rfl rfl rfl rfl rfl ?_
  refine x_bipush rfl ?_
  refine x_istore_n (ls' := [_, _, _]) rfl rfl rfl ?_
  refine x_iload_n rfl rfl ?_
  refine x_if_lt rfl (fun c => ?_) (fun c => ?_)
  · exact absurd c (by decide)
  refine x_aload_n rfl rfl ?_
  refine x_getE (y := 13) (u := 16) rfl rfl rfl rfl ?_
  refine x_sipush rfl ?_
  refine x_icmp_ge rfl (fun c => ?_) (fun c => ?_)
  · exact absurd c (by decide)
  refine x_aload_n rfl rfl ?_
  refine x_getR (u := .ref _) rfl rfl rfl rfl ?_
  refine x_aload_n rfl rfl ?_
  refine x_getE (y := 13) (u := 16) rfl rfl rfl rfl ?_
  refine x_iload_n rfl rfl ?_
  refine x_iload_n rfl rfl ?_
  refine x_iushr rfl ?_
  refine x_sipush rfl ?_
  refine x_iand rfl ?_
  refine x_iasN (j := 16) rfl rfl rfl (by decide) ?_
  refine x_aload_n rfl rfl ?_
  refine x_dup rfl rfl ?_
  refine x_getE (y := 13) (u := 16) rfl rfl rfl rfl ?_
  refine x_iconst rfl ?_
  refine x_iadd rfl ?_
  refine x_lit (b := 17) (by decide) ?_
  refine x_putI rfl rfl rfl rfl ?_
  refine x_iinc (ls' := [_, _, _]) rfl rfl rfl rfl ?_
  refine x_goto rfl ?_
  refine x_iload_n rfl rfl ?_
  refine x_if_lt rfl (fun c => ?_) (fun c => ?_)
  · exact absurd c (by decide)
  refine x_aload_n rfl rfl ?_
  refine x_getE (y := 13) (u := 17) rfl rfl rfl rfl ?_
  refine x_sipush rfl ?_
  refine x_icmp_ge rfl (fun c => ?_) (fun c => ?_)
  · exact absurd c (by decide)
  refine x_aload_n rfl rfl ?_
  refine x_getR (u := .ref _) rfl rfl rfl rfl ?_
  refine x_aload_n rfl rfl ?_
  refine x_getE (y := 13) (u := 17) rfl rfl rfl rfl ?_
  refine x_iload_n rfl rfl ?_
  refine x_iload_n rfl rfl ?_
  refine x_iushr rfl ?_
  refine x_sipush rfl ?_
  refine x_iand rfl ?_
  refine x_iasN (j := 17) rfl rfl rfl (by decide) ?_
  refine x_aload_n rfl rfl ?_
  refine x_dup rfl rfl ?_
  refine x_getE (y := 13) (u := 17) rfl rfl rfl rfl ?_
  refine x_iconst rfl ?_
  refine x_iadd rfl ?_
  refine x_lit (b := 18) (by decide) ?_
  refine x_putI rfl rfl rfl rfl ?_
  refine x_iinc (ls' := [_, _, _]) rfl rfl rfl rfl ?_
  refine x_goto rfl ?_
  refine x_iload_n rfl rfl ?_
  refine x_if_lt rfl (fun c => ?_) (fun c => ?_)
  · exact absurd c (by decide)
  refine x_aload_n rfl rfl ?_
  refine x_getE (y := 13) (u := 18) rfl rfl rfl rfl ?_
  refine x_sipush rfl ?_
  refine x_icmp_ge rfl (fun c => ?_) (fun c => ?_)
  · exact absurd c (by decide)
  refine x_aload_n rfl rfl ?_
  refine x_getR (u := .ref _) rfl rfl rfl rfl ?_
  refine x_aload_n rfl rfl ?_
  refine x_getE (y := 13) (u := 18) rfl rfl rfl rfl ?_
  refine x_iload_n rfl rfl ?_
  refine x_iload_n rfl rfl ?_
  refine x_iushr rfl ?_
  refine x_sipush rfl ?_
  refine x_iand rfl ?_
  refine x_iasN (j := 18) rfl rfl rfl (by decide) ?_
  refine x_aload_n rfl rfl ?_
  refine x_dup rfl rfl ?_
  refine x_getE (y := 13) (u := 18) rfl rfl rfl rfl ?_
  refine x_iconst rfl ?_
  refine x_iadd rfl ?_
  refine x_lit (b := 19) (by decide) ?_
  refine x_putI rfl rfl rfl rfl ?_
  refine x_iinc (ls' := [_, _, _]) rfl rfl rfl rfl ?_
  refine x_goto rfl ?_
  refine x_iload_n rfl rfl ?_
  refine x_if_lt rfl (fun c => ?_) (fun c => ?_)
  · exact absurd c (by decide)
  refine x_aload_n rfl rfl ?_
  refine x_getE (y := 13) (u := 19) rfl rfl rfl rfl ?_
  refine x_sipush rfl ?_
  refine x_icmp_ge rfl (fun c => ?_) (fun c => ?_)
  · exact absurd c (by decide)
  refine x_aload_n rfl rfl ?_
  refine x_getR (u := .ref _) rfl rfl rfl rfl ?_
  refine x_aload_n rfl rfl ?_
  refine x_getE (y := 13) (u := 19) rfl rfl rfl rfl ?_
  refine x_iload_n rfl rfl ?_
  refine x_iload_n rfl rfl ?_
  refine x_iushr rfl ?_
  refine x_sipush rfl ?_
  refine x_iand rfl ?_
  refine x_iasN (j := 19) rfl rfl rfl (by decide) ?_
  refine x_aload_n rfl rfl ?_
  refine x_dup rfl rfl ?_
  refine x_getE (y := 13) (u := 19) rfl rfl rfl rfl ?_
  refine x_iconst rfl ?_
  refine x_iadd rfl ?_
  refine x_lit (b := 20) (by decide) ?_
  refine x_putI rfl rfl rfl rfl ?_
  refine x_iinc (ls' := [_, _, _]) rfl rfl rfl rfl ?_
  refine x_goto rfl ?_
  refine x_iload_n rfl rfl ?_
  refine x_if_lt rfl (fun c => ?_) (fun c => ?_)
  rotate_left
  · exact absurd c (by decide)
  refine x_vret rfl rfl ?_
  refine x_aload_n rfl rfl ?_
  refine x_getE (y := 13) (u := 20) rfl rfl rfl rfl ?_
  refine x_iret rfl rfl ?_
  exact hP _ (Fm_up (Fm_up (Fm_up (Fm_up (Fm_up (Fm_up (Fm_up (Fm_up (Fm_up (Fm_up (Fm_up (Fm_up (Fm_up (Fm_up (Fm_up (Fm_up (Fm_up (Fm_up (Fm_up (Fm_up (Fm_up (Fm_up (Fm_up (Fm_up (Fm_up (Fm_up (Fm_up (Fm_up (Fm_up (Fm_up (Fm_up (Fm_up (Fm_up (Fm_up (Fm_up (Fm_up (Fm_up (Fm_up (Fm_up (Fm_up (Fm0) (by decide)) (by decide)) (by decide)) (by decide)) (by decide)) (by decide)) (by decide)) (by decide)) (by decide)) (by decide)) (by decide)) (by decide)) (by decide)) (by decide)) (by decide)) (by decide)) (by decide)) (by decide)) (by decide)) (by decide)) (by decide)) (by decide)) (by decide)) (by decide)) (by decide)) (by decide)) (by decide)) (by decide)) (by decide)) (by decide)) (by decide)) (by decide)) (by decide)) (by decide)) (by decide)) (by decide)) (by decide)) (by decide)) (by decide)) (by decide))
set_option maxRecDepth 20000 in
set_option maxHeartbeats 8000000 in
theorem cm_feed {d : Nat} {P : Post} {a1 a2 a3 a4 a5 : Int32} {VI : VIT} (hF : Fm VI) (hP : PM P 20) : Ex (d + 0) mi188 0 (entL [.ref 74, .int a1, .int a2, .int a3, .int a4, .int a5] 7) [] (LY ++ []) VI ZL (vr ZR) 0 0 P := by
  refine x_aload_n rfl rfl ?_
  refine x_getE (y := 13) (u := 0) rfl rfl rfl (hF.at (by decide) rfl : VI 74 13 = 0) ?_
  refine x_bipush rfl ?_
  refine x_iadd rfl ?_
  refine x_lit (b := 20) (by decide) ?_
  refine x_sipush rfl ?_
  refine x_icmp_le rfl (fun c => ?_) (fun c => ?_)
  rotate_left
  · exact absurd c (by decide)
  refine x_aload_n rfl rfl ?_
  refine x_getR (u := .ref _) rfl rfl rfl rfl ?_
  refine x_iconst rfl ?_
  refine x_iload_n rfl rfl ?_
  refine x_iasN (j := 0) rfl rfl rfl (by decide) ?_
  refine x_aload_n rfl rfl ?_
  refine x_getR (u := .ref _) rfl rfl rfl rfl ?_
  refine x_iconst rfl ?_
  refine x_iload_n rfl rfl ?_
  refine x_iasN (j := 1) rfl rfl rfl (by decide) ?_
  refine x_aload_n rfl rfl ?_
  refine x_getR (u := .ref _) rfl rfl rfl rfl ?_
  refine x_iconst rfl ?_
  refine x_iload_n rfl rfl ?_
  refine x_iasN (j := 2) rfl rfl rfl (by decide) ?_
  refine x_aload_n rfl rfl ?_
  refine x_getR (u := .ref _) rfl rfl rfl rfl ?_
  refine x_iconst rfl ?_
  refine x_iload rfl rfl ?_
  refine x_iasN (j := 3) rfl rfl rfl (by decide) ?_
  refine x_aload_n rfl rfl ?_
  refine x_getR (u := .ref _) rfl rfl rfl rfl ?_
  refine x_iconst rfl ?_
  refine x_iload rfl rfl ?_
  refine x_iasN (j := 4) rfl rfl rfl (by decide) ?_
  refine x_iconst rfl ?_
  refine x_istore (ls' := [_, _, _, _, _, _, _]) rfl rfl rfl ?_
  refine x_iload rfl rfl ?_
  refine x_bipush rfl ?_
  refine x_icmp_ge rfl (fun c => ?_) (fun c => ?_)
  · exact absurd c (by decide)
  refine x_aload_n rfl rfl ?_
  refine x_getR (u := .ref _) rfl rfl rfl rfl ?_
  refine x_aload_n rfl rfl ?_
  refine x_getE (y := 13) (u := 0) rfl rfl rfl (hF.at (by decide) rfl : VI 74 13 = 0) ?_
  refine x_iload rfl rfl ?_
  refine x_iadd rfl ?_
  refine x_lit (b := 0) (by decide) ?_
  refine x_aload_n rfl rfl ?_
  refine x_getR (u := .ref _) rfl rfl rfl rfl ?_
  refine x_iload rfl rfl ?_
  refine x_iconst rfl ?_
  refine x_idiv rfl (by decide) ?_
  refine x_lit (b := 0) (by decide) ?_
  refine x_ialN (j := 0) rfl rfl rfl (by decide) ?_
  refine x_bipush rfl ?_
  refine x_bipush rfl ?_
  refine x_iload rfl rfl ?_
  refine x_iconst rfl ?_
  refine x_irem rfl (by decide) ?_
  refine x_lit (b := 0) (by decide) ?_
  refine x_imul rfl ?_
  refine x_lit (b := 0) (by decide) ?_
  refine x_isub rfl ?_
  refine x_lit (b := 24) (by decide) ?_
  refine x_ishr rfl ?_
  refine x_i2b rfl ?_
  refine x_basN (j := 0) rfl rfl rfl (by decide) ?_
  refine x_iinc (ls' := [_, _, _, _, _, _, _]) rfl rfl rfl rfl ?_
  refine x_goto rfl ?_
  refine x_iload rfl rfl ?_
  refine x_bipush rfl ?_
  refine x_icmp_ge rfl (fun c => ?_) (fun c => ?_)
  · exact absurd c (by decide)
  refine x_aload_n rfl rfl ?_
  refine x_getR (u := .ref _) rfl rfl rfl rfl ?_
  refine x_aload_n rfl rfl ?_
  refine x_getE (y := 13) (u := 0) rfl rfl rfl (hF.at (by decide) rfl : VI 74 13 = 0) ?_
  refine x_iload rfl rfl ?_
  refine x_iadd rfl ?_
  refine x_lit (b := 1) (by decide) ?_
  refine x_aload_n rfl rfl ?_
  refine x_getR (u := .ref _) rfl rfl rfl rfl ?_
  refine x_iload rfl rfl ?_
  refine x_iconst rfl ?_
  refine x_idiv rfl (by decide) ?_
  refine x_lit (b := 0) (by decide) ?_
  refine x_ialN (j := 0) rfl rfl rfl (by decide) ?_
  refine x_bipush rfl ?_
  refine x_bipush rfl ?_
  refine x_iload rfl rfl ?_
  refine x_iconst rfl ?_
  refine x_irem rfl (by decide) ?_
  refine x_lit (b := 1) (by decide) ?_
  refine x_imul rfl ?_
  refine x_lit (b := 8) (by decide) ?_
  refine x_isub rfl ?_
  refine x_lit (b := 16) (by decide) ?_
  refine x_ishr rfl ?_
  refine x_i2b rfl ?_
  refine x_basN (j := 1) rfl rfl rfl (by decide) ?_
  refine x_iinc (ls' := [_, _, _, _, _, _, _]) rfl rfl rfl rfl ?_
  refine x_goto rfl ?_
  refine x_iload rfl rfl ?_
  refine x_bipush rfl ?_
  refine x_icmp_ge rfl (fun c => ?_) (fun c => ?_)
  · exact absurd c (by decide)
  refine x_aload_n rfl rfl ?_
  refine x_getR (u := .ref _) rfl rfl rfl rfl ?_
  refine x_aload_n rfl rfl ?_
  refine x_getE (y := 13) (u := 0) rfl rfl rfl (hF.at (by decide) rfl : VI 74 13 = 0) ?_
  refine x_iload rfl rfl ?_
  refine x_iadd rfl ?_
  refine x_lit (b := 2) (by decide) ?_
  refine x_aload_n rfl rfl ?_
  refine x_getR (u := .ref _) rfl rfl rfl rfl ?_
  refine x_iload rfl rfl ?_
  refine x_iconst rfl ?_
  refine x_idiv rfl (by decide) ?_
  refine x_lit (b := 0) (by decide) ?_
  refine x_ialN (j := 0) rfl rfl rfl (by decide) ?_
  refine x_bipush rfl ?_
  refine x_bipush rfl ?_
  refine x_iload rfl rfl ?_
  refine x_iconst rfl ?_
  refine x_irem rfl (by decide) ?_
  refine x_lit (b := 2) (by decide) ?_
  refine x_imul rfl ?_
  refine x_lit (b := 16) (by decide) ?_
  refine x_isub rfl ?_
  refine x_lit (b := 8) (by decide) ?_
  refine x_ishr rfl ?_
  refine x_i2b rfl ?_
  refine x_basN (j := 2) rfl rfl rfl (by decide) ?_
  refine x_iinc (ls' := [_, _, _, _, _, _, _]) rfl rfl rfl rfl ?_
  refine x_goto rfl ?_
  refine x_iload rfl rfl ?_
  refine x_bipush rfl ?_
  refine x_icmp_ge rfl (fun c => ?_) (fun c => ?_)
  · exact absurd c (by decide)
  refine x_aload_n rfl rfl ?_
  refine x_getR (u := .ref _) rfl rfl rfl rfl ?_
  refine x_aload_n rfl rfl ?_
  refine x_getE (y := 13) (u := 0) rfl rfl rfl (hF.at (by decide) rfl : VI 74 13 = 0) ?_
  refine x_iload rfl rfl ?_
  refine x_iadd rfl ?_
  refine x_lit (b := 3) (by decide) ?_
  refine x_aload_n rfl rfl ?_
  refine x_getR (u := .ref _) rfl rfl rfl rfl ?_
  refine x_iload rfl rfl ?_
  refine x_iconst rfl ?_
  refine x_idiv rfl (by decide) ?_
  refine x_lit (b := 0) (by decide) ?_
  refine x_ialN (j := 0) rfl rfl rfl (by decide) ?_
  refine x_bipush rfl ?_
  refine x_bipush rfl ?_
  refine x_iload rfl rfl ?_
  refine x_iconst rfl ?_
  refine x_irem rfl (by decide) ?_
  refine x_lit (b := 3) (by decide) ?_
  refine x_imul rfl ?_
  refine x_lit (b := 24) (by decide) ?_
  refine x_isub rfl ?_
  refine x_lit (b := 0) (by decide) ?_
  refine x_ishr rfl ?_
  refine x_i2b rfl ?_
  refine x_basN (j := 3) rfl rfl rfl (by decide) ?_
  refine x_iinc (ls' := [_, _, _, _, _, _, _]) rfl rfl rfl rfl ?_
  refine x_goto rfl ?_
  refine x_iload rfl rfl ?_
  refine x_bipush rfl ?_
  refine x_icmp_ge rfl (fun c => ?_) (fun c => ?_)
  · exact absurd c (by decide)
  refine x_aload_n rfl rfl ?_
  refine x_getR (u := .ref _) rfl rfl rfl rfl ?_
  refine x_aload_n rfl rfl ?_
  refine x_getE (y := 13) (u := 0) rfl rfl rfl (hF.at (by decide) rfl : VI 74 13 = 0) ?_
  refine x_iload rfl rfl ?_
  refine x_iadd rfl ?_
  refine x_lit (b := 4) (by decide) ?_
  refine x_aload_n rfl rfl ?_
  refine x_getR (u := .ref _) rfl rfl rfl rfl ?_
  refine x_iload rfl rfl ?_
  refine x_iconst rfl ?_
  refine x_idiv rfl (by decide) ?_
  refine x_lit (b := 1) (by decide) ?_
  refine x_ialN (j := 1) rfl rfl rfl (by decide) ?_
  refine x_bipush rfl ?_
  refine x_bipush rfl ?_
  refine x_iload rfl rfl ?_
  refine x_iconst rfl ?_
  refine x_irem rfl (by decide) ?_
  refine x_lit (b := 0) (by decide) ?_
  refine x_imul rfl ?_
  refine x_lit (b := 0) (by decide) ?_
  refine x_isub rfl ?_
  refine x_lit (b := 24) (by decide) ?_
  refine x_ishr rfl ?_
  refine x_i2b rfl ?_
  refine x_basN (j := 4) rfl rfl rfl (by decide) ?_
  refine x_iinc (ls' := [_, _, _, _, _, _, _]) rfl rfl rfl rfl ?_
  refine x_goto rfl ?_
  refine x_iload rfl rfl ?_
  refine x_bipush rfl ?_
  refine x_icmp_ge rfl (fun c => ?_) (fun c => ?_)
  · exact absurd c (by decide)
  refine x_aload_n rfl rfl ?_
  refine x_getR (u := .ref _) rfl rfl rfl rfl ?_
  refine x_aload_n rfl rfl ?_
  refine x_getE (y := 13) (u := 0) rfl rfl rfl (hF.at (by decide) rfl : VI 74 13 = 0) ?_
  refine x_iload rfl rfl ?_
  refine x_iadd rfl ?_
  refine x_lit (b := 5) (by decide) ?_
  refine x_aload_n rfl rfl ?_
  refine x_getR (u := .ref _) rfl rfl rfl rfl ?_
  refine x_iload rfl rfl ?_
  refine x_iconst rfl ?_
  refine x_idiv rfl (by decide) ?_
  refine x_lit (b := 1) (by decide) ?_
  refine x_ialN (j := 1) rfl rfl rfl (by decide) ?_
  refine x_bipush rfl ?_
  refine x_bipush rfl ?_
  refine x_iload rfl rfl ?_
  refine x_iconst rfl ?_
  refine x_irem rfl (by decide) ?_
  refine x_lit (b := 1) (by decide) ?_
  refine x_imul rfl ?_
  refine x_lit (b := 8) (by decide) ?_
  refine x_isub rfl ?_
  refine x_lit (b := 16) (by decide) ?_
  refine x_ishr rfl ?_
  refine x_i2b rfl ?_
  refine x_basN (j := 5) rfl rfl rfl (by decide) ?_
  refine x_iinc (ls' := [_, _, _, _, _, _, _]) rfl rfl rfl rfl ?_
  refine x_goto rfl ?_
  refine x_iload rfl rfl ?_
  refine x_bipush rfl ?_
  refine x_icmp_ge rfl (fun c => ?_) (fun c => ?_)
  · exact absurd c (by decide)
  refine x_aload_n rfl rfl ?_
  refine x_getR (u := .ref _) rfl rfl rfl rfl ?_
  refine x_aload_n rfl rfl ?_
  refine x_getE (y := 13) (u := 0) rfl rfl rfl (hF.at (by decide) rfl : VI 74 13 = 0) ?_
  refine x_iload rfl rfl ?_
  refine x_iadd rfl ?_
  refine x_lit (b := 6) (by decide) ?_
  refine x_aload_n rfl rfl ?_
  refine x_getR (u := .ref _) rfl rfl rfl rfl ?_
  refine x_iload rfl rfl ?_
  refine x_iconst rfl ?_
  refine x_idiv rfl (by decide) ?_
  refine x_lit (b := 1) (by decide) ?_
  refine x_ialN (j := 1) rfl rfl rfl (by decide) ?_
  refine x_bipush rfl ?_
  refine x_bipush rfl ?_
  refine x_iload rfl rfl ?_
  refine x_iconst rfl ?_
  refine x_irem rfl (by decide) ?_
  refine x_lit (b := 2) (by decide) ?_
  refine x_imul rfl ?_
  refine x_lit (b := 16) (by decide) ?_
  refine x_isub rfl ?_
  refine x_lit (b := 8) (by decide) ?_
  refine x_ishr rfl ?_
  refine x_i2b rfl ?_
  refine x_basN (j := 6) rfl rfl rfl (by decide) ?_
  refine x_iinc (ls' := [_, _, _, _, _, _, _]) rfl rfl rfl rfl ?_
  refine x_goto rfl ?_
  refine x_iload rfl rfl ?_
  refine x_bipush rfl ?_
  refine x_icmp_ge rfl (fun c => ?_) (fun c => ?_)
  · exact absurd c (by decide)
  refine x_aload_n rfl rfl ?_
  refine x_getR (u := .ref _) rfl rfl rfl rfl ?_
  refine x_aload_n rfl rfl ?_
  refine x_getE (y := 13) (u := 0) rfl rfl rfl (hF.at (by decide) rfl : VI 74 13 = 0) ?_
  refine x_iload rfl rfl ?_
  refine x_iadd rfl ?_
  refine x_lit (b := 7) (by decide) ?_
  refine x_aload_n rfl rfl ?_
  refine x_getR (u := .ref _) rfl rfl rfl rfl ?_
  refine x_iload rfl rfl ?_
  refine x_iconst rfl ?_
  refine x_idiv rfl (by decide) ?_
  refine x_lit (b := 1) (by decide) ?_
  refine x_ialN (j := 1) rfl rfl rfl (by decide) ?_
  refine x_bipush rfl ?_
  refine x_bipush rfl ?_
  refine x_iload rfl rfl ?_
  refine x_iconst rfl ?_
  refine x_irem rfl (by decide) ?_
  refine x_lit (b := 3) (by decide) ?_
  refine x_imul rfl ?_
  refine x_lit (b := 24) (by decide) ?_
  refine x_isub rfl ?_
  refine x_lit (b := 0) (by decide) ?_
  refine x_ishr rfl ?_
  refine x_i2b rfl ?_
  refine x_basN (j := 7) rfl rfl rfl (by decide) ?_
  refine x_iinc (ls' := [_, _, _, _, _, _, _]) rfl rfl rfl rfl ?_
  refine x_goto rfl ?_
  refine x_iload rfl rfl ?_
  refine x_bipush rfl ?_
  refine x_icmp_ge rfl (fun c => ?_) (fun c => ?_)
  · exact absurd c (by decide)
  refine x_aload_n rfl rfl ?_
  refine x_getR (u := .ref _) rfl rfl rfl rfl ?_
  refine x_aload_n rfl rfl ?_
  refine x_getE (y := 13) (u := 0) rfl rfl rfl (hF.at (by decide) rfl : VI 74 13 = 0) ?_
  refine x_iload rfl rfl ?_
  refine x_iadd rfl ?_
  refine x_lit (b := 8) (by decide) ?_
  refine x_aload_n rfl rfl ?_
  refine x_getR (u := .ref _) rfl rfl rfl rfl ?_
  refine x_iload rfl rfl ?_
  refine x_iconst rfl ?_
  refine x_idiv rfl (by decide) ?_
  refine x_lit (b := 2) (by decide) ?_
  refine x_ialN (j := 2) rfl rfl rfl (by decide) ?_
  refine x_bipush rfl ?_
  refine x_bipush rfl ?_
  refine x_iload rfl rfl ?_
  refine x_iconst rfl ?_
  refine x_irem rfl (by decide) ?_
  refine x_lit (b := 0) (by decide) ?_
  refine x_imul rfl ?_
  refine x_lit (b := 0) (by decide) ?_
  refine x_isub rfl ?_
  refine x_lit (b := 24) (by decide) ?_
  refine x_ishr rfl ?_
  refine x_i2b rfl ?_
  refine x_basN (j := 8) rfl rfl rfl (by decide) ?_
  refine x_iinc (ls' := [_, _, _, _, _, _, _]) rfl rfl rfl rfl ?_
  refine x_goto rfl ?_
  refine x_iload rfl rfl ?_
  refine x_bipush rfl ?_
  refine x_icmp_ge rfl (fun c => ?_) (fun c => ?_)
  · exact absurd c (by decide)
  refine x_aload_n rfl rfl ?_
  refine x_getR (u := .ref _) rfl rfl rfl rfl ?_
  refine x_aload_n rfl rfl ?_
  refine x_getE (y := 13) (u := 0) rfl rfl rfl (hF.at (by decide) rfl : VI 74 13 = 0) ?_
  refine x_iload rfl rfl ?_
  refine x_iadd rfl ?_
  refine x_lit (b := 9) (by decide) ?_
  refine x_aload_n rfl rfl ?_
  refine x_getR (u := .ref _) rfl rfl rfl rfl ?_
  refine x_iload rfl rfl ?_
  refine x_iconst rfl ?_
  refine x_idiv rfl (by decide) ?_
  refine x_lit (b := 2) (by decide) ?_
  refine x_ialN (j := 2) rfl rfl rfl (by decide) ?_
  refine x_bipush rfl ?_
  refine x_bipush rfl ?_
  refine x_iload rfl rfl ?_
  refine x_iconst rfl ?_
  refine x_irem rfl (by decide) ?_
  refine x_lit (b := 1) (by decide) ?_
  refine x_imul rfl ?_
  refine x_lit (b := 8) (by decide) ?_
  refine x_isub rfl ?_
  refine x_lit (b := 16) (by decide) ?_
  refine x_ishr rfl ?_
  refine x_i2b rfl ?_
  refine x_basN (j := 9) rfl rfl rfl (by decide) ?_
  refine x_iinc (ls' := [_, _, _, _, _, _, _]) rfl rfl rfl rfl ?_
  refine x_goto rfl ?_
  refine x_iload rfl rfl ?_
  refine x_bipush rfl ?_
  refine x_icmp_ge rfl (fun c => ?_) (fun c => ?_)
  · exact absurd c (by decide)
  refine x_aload_n rfl rfl ?_
  refine x_getR (u := .ref _) rfl rfl rfl rfl ?_
  refine x_aload_n rfl rfl ?_
  refine x_getE (y := 13) (u := 0) rfl rfl rfl (hF.at (by decide) rfl : VI 74 13 = 0) ?_
  refine x_iload rfl rfl ?_
  refine x_iadd rfl ?_
  refine x_lit (b := 10) (by decide) ?_
  refine x_aload_n rfl rfl ?_
  refine x_getR (u := .ref _) rfl rfl rfl rfl ?_
  refine x_iload rfl rfl ?_
  refine x_iconst rfl ?_
  refine x_idiv rfl (by decide) ?_
  refine x_lit (b := 2) (by decide) ?_
  refine x_ialN (j := 2) rfl rfl rfl (by decide) ?_
  refine x_bipush rfl ?_
  refine x_bipush rfl ?_
  refine x_iload rfl rfl ?_
  refine x_iconst rfl ?_
  refine x_irem rfl (by decide) ?_
  refine x_lit (b := 2) (by decide) ?_
  refine x_imul rfl ?_
  refine x_lit (b := 16) (by decide) ?_
  refine x_isub rfl ?_
  refine x_lit (b := 8) (by decide) ?_
  refine x_ishr rfl ?_
  refine x_i2b rfl ?_
  refine x_basN (j := 10) rfl rfl rfl (by decide) ?_
  refine x_iinc (ls' := [_, _, _, _, _, _, _]) rfl rfl rfl rfl ?_
  refine x_goto rfl ?_
  refine x_iload rfl rfl ?_
  refine x_bipush rfl ?_
  refine x_icmp_ge rfl (fun c => ?_) (fun c => ?_)
  · exact absurd c (by decide)
  refine x_aload_n rfl rfl ?_
  refine x_getR (u := .ref _) rfl rfl rfl rfl ?_
  refine x_aload_n rfl rfl ?_
  refine x_getE (y := 13) (u := 0) rfl rfl rfl (hF.at (by decide) rfl : VI 74 13 = 0) ?_
  refine x_iload rfl rfl ?_
  refine x_iadd rfl ?_
  refine x_lit (b := 11) (by decide) ?_
  refine x_aload_n rfl rfl ?_
  refine x_getR (u := .ref _) rfl rfl rfl rfl ?_
  refine x_iload rfl rfl ?_
  refine x_iconst rfl ?_
  refine x_idiv rfl (by decide) ?_
  refine x_lit (b := 2) (by decide) ?_
  refine x_ialN (j := 2) rfl rfl rfl (by decide) ?_
  refine x_bipush rfl ?_
  refine x_bipush rfl ?_
  refine x_iload rfl rfl ?_
  refine x_iconst rfl ?_
  refine x_irem rfl (by decide) ?_
  refine x_lit (b := 3) (by decide) ?_
  refine x_imul rfl ?_
  refine x_lit (b := 24) (by decide) ?_
  refine x_isub rfl ?_
  refine x_lit (b := 0) (by decide) ?_
  refine x_ishr rfl ?_
  refine x_i2b rfl ?_
  refine x_basN (j := 11) rfl rfl rfl (by decide) ?_
  refine x_iinc (ls' := [_, _, _, _, _, _, _]) rfl rfl rfl rfl ?_
  refine x_goto rfl ?_
  refine x_iload rfl rfl ?_
  refine x_bipush rfl ?_
  refine x_icmp_ge rfl (fun c => ?_) (fun c => ?_)
  · exact absurd c (by decide)
  refine x_aload_n rfl rfl ?_
  refine x_getR (u := .ref _) rfl rfl rfl rfl ?_
  refine x_aload_n rfl rfl ?_
  refine x_getE (y := 13) (u := 0) rfl rfl rfl (hF.at (by decide) rfl : VI 74 13 = 0) ?_
  refine x_iload rfl rfl ?_
  refine x_iadd rfl ?_
  refine x_lit (b := 12) (by decide) ?_
  refine x_aload_n rfl rfl ?_
  refine x_getR (u := .ref _) rfl rfl rfl rfl ?_
  refine x_iload rfl rfl ?_
  refine x_iconst rfl ?_
  refine x_idiv rfl (by decide) ?_
  refine x_lit (b := 3) (by decide) ?_
  refine x_ialN (j := 3) rfl rfl rfl (by decide) ?_
  refine x_bipush rfl ?_
  refine x_bipush rfl ?_
  refine x_iload rfl rfl ?_
  refine x_iconst rfl ?_
  refine x_irem rfl (by decide) ?_
  refine x_lit (b := 0) (by decide) ?_
  refine x_imul rfl ?_
  refine x_lit (b := 0) (by decide) ?_
  refine x_isub rfl ?_
  refine x_lit (b := 24) (by decide) ?_
  refine x_ishr rfl ?_
  refine x_i2b rfl ?_
  refine x_basN (j := 12) rfl rfl rfl (by decide) ?_
  refine x_iinc (ls' := [_, _, _, _, _, _, _]) rfl rfl rfl rfl ?_
  refine x_goto rfl ?_
  refine x_iload rfl rfl ?_
  refine x_bipush rfl ?_
  refine x_icmp_ge rfl (fun c => ?_) (fun c => ?_)
  · exact absurd c (by decide)
  refine x_aload_n rfl rfl ?_
  refine x_getR (u := .ref _) rfl rfl rfl rfl ?_
  refine x_aload_n rfl rfl ?_
  refine x_getE (y := 13) (u := 0) rfl rfl rfl (hF.at (by decide) rfl : VI 74 13 = 0) ?_
  refine x_iload rfl rfl ?_
  refine x_iadd rfl ?_
  refine x_lit (b := 13) (by decide) ?_
  refine x_aload_n rfl rfl ?_
  refine x_getR (u := .ref _) rfl rfl rfl rfl ?_
  refine x_iload rfl rfl ?_
  refine x_iconst rfl ?_
  refine x_idiv rfl (by decide) ?_
  refine x_lit (b := 3) (by decide) ?_
  refine x_ialN (j := 3) rfl rfl rfl (by decide) ?_
  refine x_bipush rfl ?_
  refine x_bipush rfl ?_
  refine x_iload rfl rfl ?_
  refine x_iconst rfl ?_
  refine x_irem rfl (by decide) ?_
  refine x_lit (b := 1) (by decide) ?_
  refine x_imul rfl ?_
  refine x_lit (b := 8) (by decide) ?_
  refine x_isub rfl ?_
  refine x_lit (b := 16) (by decide) ?_
  refine x_ishr rfl ?_
  refine x_i2b rfl ?_
  refine x_basN (j := 13) rfl rfl rfl (by decide) ?_
  refine x_iinc (ls' := [_, _, _, _, _, _, _]) rfl rfl rfl rfl ?_
  refine x_goto rfl ?_
  refine x_iload rfl rfl ?_
  refine x_bipush rfl ?_
  refine x_icmp_ge rfl (fun c => ?_) (fun c => ?_)
  · exact absurd c (by decide)
  refine x_aload_n rfl rfl ?_
  refine x_getR (u := .ref _) rfl rfl rfl rfl ?_
  refine x_aload_n rfl rfl ?_
  refine x_getE (y := 13) (u := 0) rfl rfl rfl (hF.at (by decide) rfl : VI 74 13 = 0) ?_
  refine x_iload rfl rfl ?_
  refine x_iadd rfl ?_
  refine x_lit (b := 14) (by decide) ?_
  refine x_aload_n rfl rfl ?_
  refine x_getR (u := .ref _) rfl rfl rfl rfl ?_
  refine x_iload rfl rfl ?_
  refine x_iconst rfl ?_
  refine x_idiv rfl (by decide) ?_
  refine x_lit (b := 3) (by decide) ?_
  refine x_ialN (j := 3) rfl rfl rfl (by decide) ?_
  refine x_bipush rfl ?_
  refine x_bipush rfl ?_
  refine x_iload rfl rfl ?_
  refine x_iconst rfl ?_
  refine x_irem rfl (by decide) ?_
  refine x_lit (b := 2) (by decide) ?_
  refine x_imul rfl ?_
  refine x_lit (b := 16) (by decide) ?_
  refine x_isub rfl ?_
  refine x_lit (b := 8) (by decide) ?_
  refine x_ishr rfl ?_
  refine x_i2b rfl ?_
  refine x_basN (j := 14) rfl rfl rfl (by decide) ?_
  refine x_iinc (ls' := [_, _, _, _, _, _, _]) rfl rfl rfl rfl ?_
  refine x_goto rfl ?_
  refine x_iload rfl rfl ?_
  refine x_bipush rfl ?_
  refine x_icmp_ge rfl (fun c => ?_) (fun c => ?_)
  · exact absurd c (by decide)
  refine x_aload_n rfl rfl ?_
  refine x_getR (u := .ref _) rfl rfl rfl rfl ?_
  refine x_aload_n rfl rfl ?_
  refine x_getE (y := 13) (u := 0) rfl rfl rfl (hF.at (by decide) rfl : VI 74 13 = 0) ?_
  refine x_iload rfl rfl ?_
  refine x_iadd rfl ?_
  refine x_lit (b := 15) (by decide) ?_
  refine x_aload_n rfl rfl ?_
  refine x_getR (u := .ref _) rfl rfl rfl rfl ?_
  refine x_iload rfl rfl ?_
  refine x_iconst rfl ?_
  refine x_idiv rfl (by decide) ?_
  refine x_lit (b := 3) (by decide) ?_
  refine x_ialN (j := 3) rfl rfl rfl (by decide) ?_
  refine x_bipush rfl ?_
  refine x_bipush rfl ?_
  refine x_iload rfl rfl ?_
  refine x_iconst rfl ?_
  refine x_irem rfl (by decide) ?_
  refine x_lit (b := 3) (by decide) ?_
  refine x_imul rfl ?_
  refine x_lit (b := 24) (by decide) ?_
  refine x_isub rfl ?_
  refine x_lit (b := 0) (by decide) ?_
  refine x_ishr rfl ?_
  refine x_i2b rfl ?_
  refine x_basN (j := 15) rfl rfl rfl (by decide) ?_
  refine x_iinc (ls' := [_, _, _, _, _, _, _]) rfl rfl rfl rfl ?_
  refine x_goto rfl ?_
  refine x_iload rfl rfl ?_
  refine x_bipush rfl ?_
  refine x_icmp_ge rfl (fun c => ?_) (fun c => ?_)
  · exact absurd c (by decide)
  refine x_aload_n rfl rfl ?_
  refine x_getR (u := .ref _) rfl rfl rfl rfl ?_
  refine x_aload_n rfl rfl ?_
  refine x_getE (y := 13) (u := 0) rfl rfl rfl (hF.at (by decide) rfl : VI 74 13 = 0) ?_
  refine x_iload rfl rfl ?_
  refine x_iadd rfl ?_
  refine x_lit (b := 16) (by decide) ?_
  refine x_aload_n rfl rfl ?_
  refine x_getR (u := .ref _) rfl rfl rfl rfl ?_
  refine x_iload rfl rfl ?_
  refine x_iconst rfl ?_
  refine x_idiv rfl (by decide) ?_
  refine x_lit (b := 4) (by decide) ?_
  refine x_ialN (j := 4) rfl rfl rfl (by decide) ?_
  refine x_bipush rfl ?_
  refine x_bipush rfl ?_
  refine x_iload rfl rfl ?_
  refine x_iconst rfl ?_
  refine x_irem rfl (by decide) ?_
  refine x_lit (b := 0) (by decide) ?_
  refine x_imul rfl ?_
  refine x_lit (b := 0) (by decide) ?_
  refine x_isub rfl ?_
  refine x_lit (b := 24) (by decide) ?_
  refine x_ishr rfl ?_
  refine x_i2b rfl ?_
  refine x_basN (j := 16) rfl rfl rfl (by decide) ?_
  refine x_iinc (ls' := [_, _, _, _, _, _, _]) rfl rfl rfl rfl ?_
  refine x_goto rfl ?_
  refine x_iload rfl rfl ?_
  refine x_bipush rfl ?_
  refine x_icmp_ge rfl (fun c => ?_) (fun c => ?_)
  · exact absurd c (by decide)
  refine x_aload_n rfl rfl ?_
  refine x_getR (u := .ref _) rfl rfl rfl rfl ?_
  refine x_aload_n rfl rfl ?_
  refine x_getE (y := 13) (u := 0) rfl rfl rfl (hF.at (by decide) rfl : VI 74 13 = 0) ?_
  refine x_iload rfl rfl ?_
  refine x_iadd rfl ?_
  refine x_lit (b := 17) (by decide) ?_
  refine x_aload_n rfl rfl ?_
  refine x_getR (u := .ref _) rfl rfl rfl rfl ?_
  refine x_iload rfl rfl ?_
  refine x_iconst rfl ?_
  refine x_idiv rfl (by decide) ?_
  refine x_lit (b := 4) (by decide) ?_
  refine x_ialN (j := 4) rfl rfl rfl (by decide) ?_
  refine x_bipush rfl ?_
  refine x_bipush rfl ?_
  refine x_iload rfl rfl ?_
  refine x_iconst rfl ?_
  refine x_irem rfl (by decide) ?_
  refine x_lit (b := 1) (by decide) ?_
  refine x_imul rfl ?_
  refine x_lit (b := 8) (by decide) ?_
  refine x_isub rfl ?_
  refine x_lit (b := 16) (by decide) ?_
  refine x_ishr rfl ?_
  refine x_i2b rfl ?_
  refine x_basN (j := 17) rfl rfl rfl (by decide) ?_
  refine x_iinc (ls' := [_, _, _, _, _, _, _]) rfl rfl rfl rfl ?_
  refine x_goto rfl ?_
  refine x_iload rfl rfl ?_
  refine x_bipush rfl ?_
  refine x_icmp_ge rfl (fun c => ?_) (fun c => ?_)
  · exact absurd c (by decide)
  refine x_aload_n rfl rfl ?_
  refine x_getR (u := .ref _) rfl rfl rfl rfl ?_
  refine x_aload_n rfl rfl ?_
  refine x_getE (y := 13) (u := 0) rfl rfl rfl (hF.at (by decide) rfl : VI 74 13 = 0) ?_
  refine x_iload rfl rfl ?_
  refine x_iadd rfl ?_
  refine x_lit (b := 18) (by decide) ?_
  refine x_aload_n rfl rfl ?_
  refine x_getR (u := .ref _) rfl rfl rfl rfl ?_
  refine x_iload rfl rfl ?_
  refine x_iconst rfl ?_
  refine x_idiv rfl (by decide) ?_
  refine x_lit (b := 4) (by decide) ?_
  refine x_ialN (j := 4) rfl rfl rfl (by decide) ?_
  refine x_bipush rfl ?_
  refine x_bipush rfl ?_
  refine x_iload rfl rfl ?_
  refine x_iconst rfl ?_
  refine x_irem rfl (by decide) ?_
  refine x_lit (b := 2) (by decide) ?_
  refine x_imul rfl ?_
  refine x_lit (b := 16) (by decide) ?_
  refine x_isub rfl ?_
  refine x_lit (b := 8) (by decide) ?_
  refine x_ishr rfl ?_
  refine x_i2b rfl ?_
  refine x_basN (j := 18) rfl rfl rfl (by decide) ?_
  refine x_iinc (ls' := [_, _, _, _, _, _, _]) rfl rfl rfl rfl ?_
  refine x_goto rfl ?_
  refine x_iload rfl rfl ?_
  refine x_bipush rfl ?_
  refine x_icmp_ge rfl (fun c => ?_) (fun c => ?_)
  · exact absurd c (by decide)
  refine x_aload_n rfl rfl ?_
  refine x_getR (u := .ref _) rfl rfl rfl rfl ?_
  refine x_aload_n rfl rfl ?_
  refine x_getE (y := 13) (u := 0) rfl rfl rfl (hF.at (by decide) rfl : VI 74 13 = 0) ?_
  refine x_iload rfl rfl ?_
  refine x_iadd rfl ?_
  refine x_lit (b := 19) (by decide) ?_
  refine x_aload_n rfl rfl ?_
  refine x_getR (u := .ref _) rfl rfl rfl rfl ?_
  refine x_iload rfl rfl ?_
  refine x_iconst rfl ?_
  refine x_idiv rfl (by decide) ?_
  refine x_lit (b := 4) (by decide) ?_
  refine x_ialN (j := 4) rfl rfl rfl (by decide) ?_
  refine x_bipush rfl ?_
  refine x_bipush rfl ?_
  refine x_iload rfl rfl ?_
  refine x_iconst rfl ?_
  refine x_irem rfl (by decide) ?_
  refine x_lit (b := 3) (by decide) ?_
  refine x_imul rfl ?_
  refine x_lit (b := 24) (by decide) ?_
  refine x_isub rfl ?_
  refine x_lit (b := 0) (by decide) ?_
  refine x_ishr rfl ?_
  refine x_i2b rfl ?_
  refine x_basN (j := 19) rfl rfl rfl (by decide) ?_
  refine x_iinc (ls' := [_, _, _, _, _, _, _]) rfl rfl rfl rfl ?_
  refine x_goto rfl ?_
  refine x_iload rfl rfl ?_
  refine x_bipush rfl ?_
  refine x_icmp_ge rfl (fun c => ?_) (fun c => ?_)
  rotate_left
  · exact absurd c (by decide)
  refine x_aload_n rfl rfl ?_
  refine x_dup rfl rfl ?_
  refine x_getE (y := 13) (u := 0) rfl rfl rfl (hF.at (by decide) rfl : VI 74 13 = 0) ?_
  refine x_bipush rfl ?_
  refine x_iadd rfl ?_
  refine x_lit (b := 20) (by decide) ?_
  refine x_putI rfl rfl rfl rfl ?_
  refine x_aload_n rfl rfl ?_
  refine x_getE (y := 13) (u := 20) rfl rfl rfl rfl ?_
  refine x_iret rfl rfl ?_
  exact hP _
set_option maxRecDepth 20000 in
set_option maxHeartbeats 8000000 in
theorem cx_person {d : Nat} {P : Post} {f a m : Int32} (hc : canF f a m = true) (hP : PX P 0) : Ex (d + 1) mi109 0 (entL [.ref 0, .int f, .int a, .int m] 4) [] (LY ++ []) VIm ZL (vr ZR) 0 0 P := by
  refine x_iload_n rfl rfl ?_
  refine x_iload_n rfl rfl ?_
  refine x_iload_n rfl rfl ?_
  refine x_callS (M' := mi90) (As := [_, _, _]) (bc1 := 0) (bs1 := 0) (bc2 := 0) (bs2 := 0) rfl rfl rfl rfl ok90 rfl rfl rfl rfl rfl rfl ?_
  refine s_canBePerson ?_
  rw [hc]
  refine x_lit (b := 1) rfl ?_
  refine x_if_ne rfl (fun c => ?_) (fun c => ?_)
  rotate_left
  · exact absurd c (by decide)
  refine x_aload_n rfl rfl ?_
  refine x_getR (u := .ref _) rfl rfl rfl rfl ?_
  refine x_getE (y := 0) (u := 0) rfl rfl rfl rfl ?_
  refine x_bipush rfl ?_
  refine x_icmp_lt rfl (fun c => ?_) (fun c => ?_)
  rotate_left
  · exact absurd c (by decide)
  refine x_aload_n rfl rfl ?_
  refine x_getR (u := .ref _) rfl rfl rfl rfl ?_
  refine x_callV (M' := mi6) (As := []) (bc1 := 0) (bs1 := 0) (bc2 := 0) (bs2 := 0) rfl rfl rfl rfl ok6 rfl rfl (by decide) rfl rfl rfl rfl rfl rfl ?_
  refine x_aload_n rfl rfl ?_
  refine x_iconst rfl ?_
  refine x_putI rfl rfl rfl rfl ?_
  refine x_vret rfl rfl ?_
  refine x_aload_n rfl rfl ?_
  refine x_aload_n rfl rfl ?_
  refine x_getR (u := .ref _) rfl rfl rfl rfl ?_
  refine x_iload_n rfl rfl ?_
  refine x_iload_n rfl rfl ?_
  refine x_iload_n rfl rfl ?_
  refine x_callV (M' := mi91) (As := [_, _, _]) (bc1 := 0) (bs1 := 0) (bc2 := 0) (bs2 := 0) rfl rfl rfl rfl ok91 rfl rfl (by decide) rfl rfl rfl rfl rfl rfl ?_
  refine x_aload_n rfl rfl ?_
  refine x_getE (y := 0) (u := 0) rfl rfl rfl rfl ?_
  refine x_bipush rfl ?_
  refine x_icmp_lt rfl (fun c => ?_) (fun c => ?_)
  rotate_left
  · exact absurd c (by decide)
  refine x_aload_n rfl rfl ?_
  refine x_getE (y := 0) (u := 0) rfl rfl rfl rfl ?_
  refine x_istore (ls' := [_, _, _, _, _, _]) rfl rfl rfl ?_
  refine x_aload_n rfl rfl ?_
  refine x_getR (u := .ref _) rfl rfl rfl rfl ?_
  refine x_iload rfl rfl ?_
  refine x_iload_n rfl rfl ?_
  refine x_iasN (j := 0) rfl rfl rfl (by decide) ?_
  refine x_aload_n rfl rfl ?_
  refine x_getR (u := .ref _) rfl rfl rfl rfl ?_
  refine x_iload rfl rfl ?_
  refine x_iload_n rfl rfl ?_
  refine x_iasN (j := 0) rfl rfl rfl (by decide) ?_
  refine x_iconst rfl ?_
  refine x_istore (ls' := [_, _, _, _, _, _]) rfl rfl rfl ?_
  refine x_iload rfl rfl ?_
  refine x_iconst rfl ?_
  refine x_icmp_ge rfl (fun c => ?_) (fun c => ?_)
  · exact absurd c (by decide)
  refine x_aload_n rfl rfl ?_
  refine x_getR (u := .ref _) rfl rfl rfl rfl ?_
  refine x_iload rfl rfl ?_
  refine x_iconst rfl ?_
  refine x_imul rfl ?_
  refine x_lit (b := 0) (by decide) ?_
  refine x_iload rfl rfl ?_
  refine x_iadd rfl ?_
  refine x_lit (b := 0) (by decide) ?_
  refine x_iload_n rfl rfl ?_
  refine x_iconst rfl ?_
  refine x_iconst rfl ?_
  refine x_iload rfl rfl ?_
  refine x_isub rfl ?_
  refine x_lit (b := 3) (by decide) ?_
  refine x_imul rfl ?_
  refine x_lit (b := 6) (by decide) ?_
  refine x_ishr rfl ?_
  refine x_iconst rfl ?_
  refine x_iand rfl ?_
  refine x_iasN (j := 0) rfl rfl rfl (by decide) ?_
  refine x_iinc (ls' := [_, _, _, _, _, _]) rfl rfl rfl rfl ?_
  refine x_goto rfl ?_
  refine x_iload rfl rfl ?_
  refine x_iconst rfl ?_
  refine x_icmp_ge rfl (fun c => ?_) (fun c => ?_)
  · exact absurd c (by decide)
  refine x_aload_n rfl rfl ?_
  refine x_getR (u := .ref _) rfl rfl rfl rfl ?_
  refine x_iload rfl rfl ?_
  refine x_iconst rfl ?_
  refine x_imul rfl ?_
  refine x_lit (b := 0) (by decide) ?_
  refine x_iload rfl rfl ?_
  refine x_iadd rfl ?_
  refine x_lit (b := 1) (by decide) ?_
  refine x_iload_n rfl rfl ?_
  refine x_iconst rfl ?_
  refine x_iconst rfl ?_
  refine x_iload rfl rfl ?_
  refine x_isub rfl ?_
  refine x_lit (b := 2) (by decide) ?_
  refine x_imul rfl ?_
  refine x_lit (b := 4) (by decide) ?_
  refine x_ishr rfl ?_
  refine x_iconst rfl ?_
  refine x_iand rfl ?_
  refine x_iasN (j := 1) rfl rfl rfl (by decide) ?_
  refine x_iinc (ls' := [_, _, _, _, _, _]) rfl rfl rfl rfl ?_
  refine x_goto rfl ?_
  refine x_iload rfl rfl ?_
  refine x_iconst rfl ?_
  refine x_icmp_ge rfl (fun c => ?_) (fun c => ?_)
  · exact absurd c (by decide)
  refine x_aload_n rfl rfl ?_
  refine x_getR (u := .ref _) rfl rfl rfl rfl ?_
  refine x_iload rfl rfl ?_
  refine x_iconst rfl ?_
  refine x_imul rfl ?_
  refine x_lit (b := 0) (by decide) ?_
  refine x_iload rfl rfl ?_
  refine x_iadd rfl ?_
  refine x_lit (b := 2) (by decide) ?_
  refine x_iload_n rfl rfl ?_
  refine x_iconst rfl ?_
  refine x_iconst rfl ?_
  refine x_iload rfl rfl ?_
  refine x_isub rfl ?_
  refine x_lit (b := 1) (by decide) ?_
  refine x_imul rfl ?_
  refine x_lit (b := 2) (by decide) ?_
  refine x_ishr rfl ?_
  refine x_iconst rfl ?_
  refine x_iand rfl ?_
  refine x_iasN (j := 2) rfl rfl rfl (by decide) ?_
  refine x_iinc (ls' := [_, _, _, _, _, _]) rfl rfl rfl rfl ?_
  refine x_goto rfl ?_
  refine x_iload rfl rfl ?_
  refine x_iconst rfl ?_
  refine x_icmp_ge rfl (fun c => ?_) (fun c => ?_)
  · exact absurd c (by decide)
  refine x_aload_n rfl rfl ?_
  refine x_getR (u := .ref _) rfl rfl rfl rfl ?_
  refine x_iload rfl rfl ?_
  refine x_iconst rfl ?_
  refine x_imul rfl ?_
  refine x_lit (b := 0) (by decide) ?_
  refine x_iload rfl rfl ?_
  refine x_iadd rfl ?_
  refine x_lit (b := 3) (by decide) ?_
  refine x_iload_n rfl rfl ?_
  refine x_iconst rfl ?_
  refine x_iconst rfl ?_
  refine x_iload rfl rfl ?_
  refine x_isub rfl ?_
  refine x_lit (b := 0) (by decide) ?_
  refine x_imul rfl ?_
  refine x_lit (b := 0) (by decide) ?_
  refine x_ishr rfl ?_
  refine x_iconst rfl ?_
  refine x_iand rfl ?_
  refine x_iasN (j := 3) rfl rfl rfl (by decide) ?_
  refine x_iinc (ls' := [_, _, _, _, _, _]) rfl rfl rfl rfl ?_
  refine x_goto rfl ?_
  refine x_iload rfl rfl ?_
  refine x_iconst rfl ?_
  refine x_icmp_ge rfl (fun c => ?_) (fun c => ?_)
  rotate_left
  · exact absurd c (by decide)
  refine x_aload_n rfl rfl ?_
  refine x_dup rfl rfl ?_
  refine x_getE (y := 1) (u := 0) rfl rfl rfl rfl ?_
  refine x_iconst rfl ?_
  refine x_iload rfl rfl ?_
  refine x_ishl rfl ?_
  refine x_lit (b := 1) (by decide) ?_
  refine x_ior rfl ?_
  refine x_lit (b := 1) (by decide) ?_
  refine x_putI rfl rfl rfl rfl ?_
  refine x_aload_n rfl rfl ?_
  refine x_dup rfl rfl ?_
  refine x_getE (y := 0) (u := 0) rfl rfl rfl rfl ?_
  refine x_iconst rfl ?_
  refine x_iadd rfl ?_
  refine x_lit (b := 1) (by decide) ?_
  refine x_putI rfl rfl rfl rfl ?_
  refine x_iload rfl rfl ?_
  refine x_iret rfl rfl ?_
  refine x_callV (M' := mi145) (As := [_]) (bc1 := 0) (bs1 := 0) (bc2 := 0) (bs2 := 0) rfl rfl rfl rfl ok145 rfl rfl (by decide) rfl rfl rfl rfl rfl rfl ?_
  refine x_aload_n rfl rfl ?_
  refine x_iload_n rfl rfl ?_
  refine x_iconst rfl ?_
  refine x_min rfl rfl ?_
  refine x_lit (b := 0) (by decide) ?_
  refine x_putI rfl rfl rfl rfl ?_
  refine x_iload_n rfl rfl ?_
  refine x_if_ge rfl (fun c => ?_) (fun c => ?_)
  rotate_left
  · exact absurd c (by decide)
  refine x_iload_n rfl rfl ?_
  refine x_iret rfl rfl ?_
  refine x_iret rfl rfl ?_
  exact hP _ (Fm_up (Fm_up (Fm_up (Fm_up (Fm_up (Fm_up (Fm_up (Fm_up (Fm_up (Fm_up (Fm0) (by decide)) (by decide)) (by decide)) (by decide)) (by decide)) (by decide)) (by decide)) (by decide)) (by decide)) (by decide))
set_option maxRecDepth 20000 in
set_option maxHeartbeats 8000000 in
theorem cx_person0 {d : Nat} {P : Post} {f a m : Int32} (hc : canF f a m = false) (hP : PX P (-1)) : Ex (d + 1) mi109 0 (entL [.ref 0, .int f, .int a, .int m] 4) [] (LY ++ []) VIm ZL (vr ZR) 0 0 P := by
  refine x_iload_n rfl rfl ?_
  refine x_iload_n rfl rfl ?_
  refine x_iload_n rfl rfl ?_
  refine x_callS (M' := mi90) (As := [_, _, _]) (bc1 := 0) (bs1 := 0) (bc2 := 0) (bs2 := 0) rfl rfl rfl rfl ok90 rfl rfl rfl rfl rfl rfl ?_
  refine s_canBePerson ?_
  rw [hc]
  refine x_lit (b := 0) rfl ?_
  refine x_if_ne rfl (fun c => ?_) (fun c => ?_)
  · exact absurd c (by decide)
  refine x_aload_n rfl rfl ?_
  refine x_iconst rfl ?_
  refine x_callV (M' := mi145) (As := [_]) (bc1 := 0) (bs1 := 0) (bc2 := 0) (bs2 := 0) rfl rfl rfl rfl ok145 rfl rfl (by decide) rfl rfl rfl rfl rfl rfl ?_
  refine x_aload_n rfl rfl ?_
  refine x_iload_n rfl rfl ?_
  refine x_iconst rfl ?_
  refine x_min rfl rfl ?_
  refine x_lit (b := (-1)) (by decide) ?_
  refine x_putI rfl rfl rfl rfl ?_
  refine x_iload_n rfl rfl ?_
  refine x_if_ge rfl (fun c => ?_) (fun c => ?_)
  · exact absurd c (by decide)
  refine x_iload_n rfl rfl ?_
  refine x_bipush rfl ?_
  refine x_icmp_lt rfl (fun c => ?_) (fun c => ?_)
  · exact absurd c (by decide)
  refine x_aload_n rfl rfl ?_
  refine x_getR (u := .ref _) rfl rfl rfl rfl ?_
  refine x_iload_n rfl rfl ?_
  refine x_ineg rfl ?_
  refine x_lit (b := 1) (by decide) ?_
  refine x_iconst rfl ?_
  refine x_isub rfl ?_
  refine x_lit (b := 0) (by decide) ?_
  refine x_dup2 rfl rfl rfl ?_
  refine x_ialE (j := 0) (u := 0) rfl rfl rfl (by decide) rfl ?_
  refine x_iconst rfl ?_
  refine x_iadd rfl ?_
  refine x_lit (b := 1) (by decide) ?_
  refine x_iasN (j := 0) rfl rfl rfl (by decide) ?_
  refine x_iload_n rfl rfl ?_
  refine x_iret rfl rfl ?_
  refine x_iret rfl rfl ?_
  exact hP _ (Fm_up (Fm_up (Fm0) (by decide)) (by decide))
set_option maxRecDepth 20000 in
set_option maxHeartbeats 8000000 in
theorem cm_person {d : Nat} {P : Post} {f a m : Int32} (hc : canF f a m = true) {VI : VIT} (hF : Fm VI) (hP : PM P 0) : Ex (d + 2) mi173 0 (entL [.ref 74, .int f, .int a, .int m] 4) [] (LY ++ []) VI ZL (vr ZR) 0 0 P := by
  refine x_iload_n rfl rfl ?_
  refine x_iload_n rfl rfl ?_
  refine x_iload_n rfl rfl ?_
  refine x_callS (M' := mi171) (As := [_, _, _]) (bc1 := 0) (bs1 := 0) (bc2 := 0) (bs2 := 0) rfl rfl rfl rfl ok171 rfl rfl rfl rfl rfl rfl ?_
  refine m_canBe ?_
  rw [hc]
  refine x_lit (b := 1) rfl ?_
  refine x_if_ne rfl (fun c => ?_) (fun c => ?_)
  rotate_left
  · exact absurd c (by decide)
  refine x_aload_n rfl rfl ?_
  refine x_getR (u := .ref _) rfl rfl rfl rfl ?_
  refine x_bipush rfl ?_
  refine x_ialE (j := 93) (u := 0) rfl rfl rfl (by decide) (hF.at (by decide) rfl : VI 76 93 = 0) ?_
  refine x_bipush rfl ?_
  refine x_icmp_ne rfl (fun c => ?_) (fun c => ?_)
  rotate_left
  · exact absurd c (by decide)
  refine x_aload_n rfl rfl ?_
  refine x_iload_n rfl rfl ?_
  refine x_iload_n rfl rfl ?_
  refine x_iload_n rfl rfl ?_
  refine x_callV (M' := mi172) (As := [_, _, _]) (bc1 := 0) (bs1 := 0) (bc2 := 0) (bs2 := 0) rfl rfl rfl rfl ok172 rfl rfl (by decide) rfl rfl rfl rfl rfl rfl ?_
  refine x_aload_n rfl rfl ?_
  refine x_getR (u := .ref _) rfl rfl rfl rfl ?_
  refine x_bipush rfl ?_
  refine x_ialE (j := 93) (u := 0) rfl rfl rfl (by decide) (hF.at (by decide) rfl : VI 76 93 = 0) ?_
  refine x_istore (ls' := [_, _, _, _, _, _, _]) rfl rfl rfl ?_
  refine x_iload_n rfl rfl ?_
  refine x_istore (ls' := [_, _, _, _, _, _, _]) rfl rfl rfl ?_
  refine x_aload_n rfl rfl ?_
  refine x_getR (u := .ref _) rfl rfl rfl rfl ?_
  refine x_bipush rfl ?_
  refine x_iload rfl rfl ?_
  refine x_iadd rfl ?_
  refine x_lit (b := 39) (by decide) ?_
  refine x_iload_n rfl rfl ?_
  refine x_iasN (j := 39) rfl rfl rfl (by decide) ?_
  refine x_aload_n rfl rfl ?_
  refine x_getR (u := .ref _) rfl rfl rfl rfl ?_
  refine x_bipush rfl ?_
  refine x_iload rfl rfl ?_
  refine x_iadd rfl ?_
  refine x_lit (b := 45) (by decide) ?_
  refine x_iload_n rfl rfl ?_
  refine x_iasN (j := 45) rfl rfl rfl (by decide) ?_
  refine x_aload_n rfl rfl ?_
  refine x_getR (u := .ref _) rfl rfl rfl rfl ?_
  refine x_bipush rfl ?_
  refine x_iload rfl rfl ?_
  refine x_iadd rfl ?_
  refine x_lit (b := 24) (by decide) ?_
  refine x_iconst rfl ?_
  refine x_iasN (j := 24) rfl rfl rfl (by decide) ?_
  refine x_iconst rfl ?_
  refine x_istore (ls' := [_, _, _, _, _, _, _]) rfl rfl rfl ?_
  refine x_iload rfl rfl ?_
  refine x_if_lt rfl (fun c => ?_) (fun c => ?_)
  · exact absurd c (by decide)
  refine x_aload_n rfl rfl ?_
  refine x_getR (u := .ref _) rfl rfl rfl rfl ?_
  refine x_iconst rfl ?_
  refine x_iconst rfl ?_
  refine x_iload rfl rfl ?_
  refine x_imul rfl ?_
  refine x_lit (b := 0) (by decide) ?_
  refine x_iadd rfl ?_
  refine x_lit (b := 0) (by decide) ?_
  refine x_iload rfl rfl ?_
  refine x_iadd rfl ?_
  refine x_lit (b := 3) (by decide) ?_
  refine x_iload rfl rfl ?_
  refine x_iconst rfl ?_
  refine x_irem rfl (by decide) ?_
  refine x_iasN (j := 3) rfl rfl rfl (by decide) ?_
  refine x_iload rfl rfl ?_
  refine x_iconst rfl ?_
  refine x_idiv rfl (by decide) ?_
  refine x_istore (ls' := [_, _, _, _, _, _, _]) rfl rfl rfl ?_
  refine x_iinc (ls' := [_, _, _, _, _, _, _]) rfl rfl rfl rfl ?_
  refine x_goto rfl ?_
  refine x_iload rfl rfl ?_
  refine x_if_lt rfl (fun c => ?_) (fun c => ?_)
  · exact absurd c (by decide)
  refine x_aload_n rfl rfl ?_
  refine x_getR (u := .ref _) rfl rfl rfl rfl ?_
  refine x_iconst rfl ?_
  refine x_iconst rfl ?_
  refine x_iload rfl rfl ?_
  refine x_imul rfl ?_
  refine x_lit (b := 0) (by decide) ?_
  refine x_iadd rfl ?_
  refine x_lit (b := 0) (by decide) ?_
  refine x_iload rfl rfl ?_
  refine x_iadd rfl ?_
  refine x_lit (b := 2) (by decide) ?_
  refine x_iload rfl rfl ?_
  refine x_iconst rfl ?_
  refine x_irem rfl (by decide) ?_
  refine x_iasN (j := 2) rfl rfl rfl (by decide) ?_
  refine x_iload rfl rfl ?_
  refine x_iconst rfl ?_
  refine x_idiv rfl (by decide) ?_
  refine x_istore (ls' := [_, _, _, _, _, _, _]) rfl rfl rfl ?_
  refine x_iinc (ls' := [_, _, _, _, _, _, _]) rfl rfl rfl rfl ?_
  refine x_goto rfl ?_
  refine x_iload rfl rfl ?_
  refine x_if_lt rfl (fun c => ?_) (fun c => ?_)
  · exact absurd c (by decide)
  refine x_aload_n rfl rfl ?_
  refine x_getR (u := .ref _) rfl rfl rfl rfl ?_
  refine x_iconst rfl ?_
  refine x_iconst rfl ?_
  refine x_iload rfl rfl ?_
  refine x_imul rfl ?_
  refine x_lit (b := 0) (by decide) ?_
  refine x_iadd rfl ?_
  refine x_lit (b := 0) (by decide) ?_
  refine x_iload rfl rfl ?_
  refine x_iadd rfl ?_
  refine x_lit (b := 1) (by decide) ?_
  refine x_iload rfl rfl ?_
  refine x_iconst rfl ?_
  refine x_irem rfl (by decide) ?_
  refine x_iasN (j := 1) rfl rfl rfl (by decide) ?_
  refine x_iload rfl rfl ?_
  refine x_iconst rfl ?_
  refine x_idiv rfl (by decide) ?_
  refine x_istore (ls' := [_, _, _, _, _, _, _]) rfl rfl rfl ?_
  refine x_iinc (ls' := [_, _, _, _, _, _, _]) rfl rfl rfl rfl ?_
  refine x_goto rfl ?_
  refine x_iload rfl rfl ?_
  refine x_if_lt rfl (fun c => ?_) (fun c => ?_)
  · exact absurd c (by decide)
  refine x_aload_n rfl rfl ?_
  refine x_getR (u := .ref _) rfl rfl rfl rfl ?_
  refine x_iconst rfl ?_
  refine x_iconst rfl ?_
  refine x_iload rfl rfl ?_
  refine x_imul rfl ?_
  refine x_lit (b := 0) (by decide) ?_
  refine x_iadd rfl ?_
  refine x_lit (b := 0) (by decide) ?_
  refine x_iload rfl rfl ?_
  refine x_iadd rfl ?_
  refine x_lit (b := 0) (by decide) ?_
  refine x_iload rfl rfl ?_
  refine x_iconst rfl ?_
  refine x_irem rfl (by decide) ?_
  refine x_iasN (j := 0) rfl rfl rfl (by decide) ?_
  refine x_iload rfl rfl ?_
  refine x_iconst rfl ?_
  refine x_idiv rfl (by decide) ?_
  refine x_istore (ls' := [_, _, _, _, _, _, _]) rfl rfl rfl ?_
  refine x_iinc (ls' := [_, _, _, _, _, _, _]) rfl rfl rfl rfl ?_
  refine x_goto rfl ?_
  refine x_iload rfl rfl ?_
  refine x_if_lt rfl (fun c => ?_) (fun c => ?_)
  rotate_left
  · exact absurd c (by decide)
  refine x_aload_n rfl rfl ?_
  refine x_getR (u := .ref _) rfl rfl rfl rfl ?_
  refine x_bipush rfl ?_
  refine x_dup2 rfl rfl rfl ?_
  refine x_ialE (j := 93) (u := 0) rfl rfl rfl (by decide) (hF.at (by decide) rfl : VI 76 93 = 0) ?_
  refine x_iconst rfl ?_
  refine x_iadd rfl ?_
  refine x_lit (b := 1) (by decide) ?_
  refine x_iasN (j := 93) rfl rfl rfl (by decide) ?_
  refine x_vret rfl rfl ?_
  refine x_aload_n rfl rfl ?_
  refine x_aload_n rfl rfl ?_
  refine x_getR (u := .ref _) rfl rfl rfl rfl ?_
  refine x_bipush rfl ?_
  refine x_ialE (j := 93) (u := 1) rfl rfl rfl (by decide) rfl ?_
  refine x_iconst rfl ?_
  refine x_isub rfl ?_
  refine x_lit (b := 0) (by decide) ?_
  refine x_callV (M' := mi156) (As := [_]) (bc1 := 0) (bs1 := 0) (bc2 := 0) (bs2 := 0) rfl rfl rfl rfl ok156 rfl rfl (by decide) rfl rfl rfl rfl rfl rfl ?_
  refine x_aload_n rfl rfl ?_
  refine x_iconst rfl ?_
  refine x_putI rfl rfl rfl rfl ?_
  refine x_aload_n rfl rfl ?_
  refine x_iload_n rfl rfl ?_
  refine x_callV (M' := mi155) (As := [_]) (bc1 := 0) (bs1 := 0) (bc2 := 0) (bs2 := 0) rfl rfl rfl rfl ok155 rfl rfl (by decide) rfl rfl rfl rfl rfl rfl ?_
  refine x_aload_n rfl rfl ?_
  refine x_iconst rfl ?_
  refine x_putI rfl rfl rfl rfl ?_
  refine x_iload_n rfl rfl ?_
  refine x_iret rfl rfl ?_
  refine x_iret rfl rfl ?_
  refine x_iret rfl rfl ?_
  exact hP _
set_option maxRecDepth 20000 in
set_option maxHeartbeats 8000000 in
theorem cm_person0 {d : Nat} {P : Post} {f a m : Int32} (hc : canF f a m = false) {VI : VIT} (hF : Fm VI) (hP : PM P (-1)) : Ex (d + 2) mi173 0 (entL [.ref 74, .int f, .int a, .int m] 4) [] (LY ++ []) VI ZL (vr ZR) 0 0 P := by
  refine x_iload_n rfl rfl ?_
  refine x_iload_n rfl rfl ?_
  refine x_iload_n rfl rfl ?_
  refine x_callS (M' := mi171) (As := [_, _, _]) (bc1 := 0) (bs1 := 0) (bc2 := 0) (bs2 := 0) rfl rfl rfl rfl ok171 rfl rfl rfl rfl rfl rfl ?_
  refine m_canBe ?_
  rw [hc]
  refine x_lit (b := 0) rfl ?_
  refine x_if_ne rfl (fun c => ?_) (fun c => ?_)
  · exact absurd c (by decide)
  refine x_aload_n rfl rfl ?_
  refine x_iconst rfl ?_
  refine x_callV (M' := mi154) (As := [_]) (bc1 := 0) (bs1 := 0) (bc2 := 0) (bs2 := 0) rfl rfl rfl rfl ok154 rfl rfl (by decide) rfl rfl rfl rfl rfl rfl ?_
  refine x_aload_n rfl rfl ?_
  refine x_iload_n rfl rfl ?_
  refine x_putI rfl rfl rfl rfl ?_
  refine x_aload_n rfl rfl ?_
  refine x_getR (u := .ref _) rfl rfl rfl rfl ?_
  refine x_iload_n rfl rfl ?_
  refine x_ineg rfl ?_
  refine x_lit (b := 1) (by decide) ?_
  refine x_dup2 rfl rfl rfl ?_
  refine x_ialE (j := 1) (u := 0) rfl rfl rfl (by decide) (hF.at (by decide) rfl : VI 75 1 = 0) ?_
  refine x_iconst rfl ?_
  refine x_iadd rfl ?_
  refine x_lit (b := 1) (by decide) ?_
  refine x_iasN (j := 1) rfl rfl rfl (by decide) ?_
  refine x_iload_n rfl rfl ?_
  refine x_iret rfl rfl ?_
  refine x_iret rfl rfl ?_
  exact hP _
