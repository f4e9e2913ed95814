/-! ===== String's own methods, over the text of the words ===== -/
theorem wordsCh : ∀ j, j < wordsLn → ((wordsBy.getD j 0 &&& 255).toUInt32 % 65536).toInt32 = wordsBy.getD j 0 ∧ narrow .char (.int (wordsBy.getD j 0)) = .int (wordsBy.getD j 0) := by decide +kernel
section Str
variable {d : Nat} {lay : HL} {VI : VIT} {VL : VLT} {VR : VRT} {P : Post}
theorem s_coder (hP : P (some (.int 0)) lay VI VL VR) : Ex d mi289 0 (entL [.float 1] 1) [] lay VI VL VR 0 0 P := by
  refine x_gstC rfl rfl ?_
  refine x_if_eq rfl (fun c3 => ?_) (fun c3 => ?_)
  · exact absurd c3 (by first | decide | omega)
  refine x_aload_nF1 rfl rfl ?_
  refine x_getSC rfl rfl ?_
  refine x_goto rfl ?_
  refine x_bret rfl rfl (rfl) ?_
  exact hP
theorem s_isLatin1 (hP : P (some (.int 1)) lay VI VL VR) : Ex d mi290 0 (entL [.float 1] 1) [] lay VI VL VR 0 0 P := by
  refine x_gstC rfl rfl ?_
  refine x_if_eq rfl (fun c3 => ?_) (fun c3 => ?_)
  · exact absurd c3 (by first | decide | omega)
  refine x_aload_nF1 rfl rfl ?_
  refine x_getSC rfl rfl ?_
  refine x_if_ne rfl (fun c10 => ?_) (fun c10 => ?_)
  · exact absurd rfl c10
  refine x_iconst rfl ?_
  refine x_goto rfl ?_
  refine x_zret rfl rfl (by first | exact Or.inl rfl | exact Or.inr rfl) ?_
  exact hP
theorem s_strLen (hP : P (some (.int (nI wordsLn))) lay VI VL VR) : Ex (d + 1) mi288 0 (entL [.float 1] 1) [] lay VI VL VR 0 0 P := by
  refine x_aload_nF1 rfl rfl ?_
  refine x_getSV rfl rfl ?_
  refine x_alenS rfl ?_
  refine x_aload_nF1 rfl rfl ?_
  refine x_callF (M' := mi289) (As := []) (bc1 := 0) (bs1 := 0) (bc2 := 0) (bs2 := 0) rfl rfl rfl rfl ok289 rfl rfl rfl rfl rfl rfl rfl ?_
  refine s_coder ?_
  refine x_ishr rfl ?_
  refine x_iret rfl rfl ?_
  exact P_i (sb_shr0 _) hP
theorem s_chkP {i n : Nat} (hi : i < n) (hn : n < 2147483648) (hP : P (some (.int (nI i))) lay VI VL VR) : Ex d mi287 0 (entL [.int (nI i), .int (nI n), .float 3] 3) [] lay VI VL VR 0 0 P := by
  refine x_iload_n rfl rfl ?_
  refine x_ifN_lt rfl ?_
  refine x_iload_n rfl rfl ?_
  refine x_iload_n rfl rfl ?_
  refine x_icmpN_lt rfl (fun c6 => ?_) (fun c6 => ?_)
  rotate_left
  · exact absurd c6 (by first | decide | omega)
  refine x_iload_n rfl rfl ?_
  refine x_iret rfl rfl ?_
  exact hP
theorem s_chkS {i n : Nat} (hi : i < n) (hn : n < 2147483648) (hP : P none lay VI VL VR) : Ex (d + 1) mi286 0 (entL [.int (nI i), .int (nI n)] 2) [] lay VI VL VR 0 0 P := by
  refine x_iload_n rfl rfl ?_
  refine x_iload_n rfl rfl ?_
  refine x_gstF rfl rfl ?_
  refine x_callS (M' := mi287) (As := [_, _, _]) (bc1 := 0) (bs1 := 0) (bc2 := 0) (bs2 := 0) rfl rfl rfl rfl ok287 rfl rfl rfl rfl rfl rfl ?_
  refine s_chkP hi hn ?_
  refine x_pop rfl rfl ?_
  refine x_vret rfl rfl ?_
  exact hP
theorem s_charAtL {j : Nat} (hj : j < wordsLn) (hP : P (some (.int (wordsBy.getD j 0))) lay VI VL VR) : Ex (d + 2) mi285 0 (entL [.float 2, .int (nI j)] 2) [] lay VI VL VR 0 0 P := by
  refine x_iload_n rfl rfl ?_
  refine x_aload_nF2 rfl rfl ?_
  refine x_alenS rfl ?_
  refine x_callS (M' := mi286) (As := [_, _]) (bc1 := 0) (bs1 := 0) (bc2 := 0) (bs2 := 0) rfl rfl rfl rfl ok286 rfl rfl rfl rfl rfl rfl ?_
  refine s_chkS hj (by decide) ?_
  refine x_aload_nF2 rfl rfl ?_
  refine x_iload_n rfl rfl ?_
  refine x_balS (j := j) rfl (rfl) (hj) ?_
  refine x_sipush rfl ?_
  refine x_iand rfl ?_
  refine x_i2c rfl ?_
  refine x_cret rfl rfl (by rw [(wordsCh j hj).1]; exact (wordsCh j hj).2) ?_
  exact P_i (wordsCh j hj).1 hP
theorem s_charAt {j : Nat} (hj : j < wordsLn) (hP : P (some (.int (wordsBy.getD j 0))) lay VI VL VR) : Ex (d + 3) mi284 0 (entL [.float 1, .int (nI j)] 2) [] lay VI VL VR 0 0 P := by
  refine x_aload_nF1 rfl rfl ?_
  refine x_callF (M' := mi290) (As := []) (bc1 := 0) (bs1 := 0) (bc2 := 0) (bs2 := 0) rfl rfl rfl rfl ok290 rfl rfl rfl rfl rfl rfl rfl ?_
  refine s_isLatin1 ?_
  refine x_if_eq rfl (fun c4 => ?_) (fun c4 => ?_)
  · exact absurd c4 (by first | decide | omega)
  refine x_aload_nF1 rfl rfl ?_
  refine x_getSV rfl rfl ?_
  refine x_iload_n rfl rfl ?_
  refine x_callS (M' := mi285) (As := [_, _]) (bc1 := 0) (bs1 := 0) (bc2 := 0) (bs2 := 0) rfl rfl rfl rfl ok285 rfl rfl rfl rfl rfl rfl ?_
  refine s_charAtL hj ?_
  refine x_cret rfl rfl ((wordsCh j hj).2) ?_
  exact hP
end Str
