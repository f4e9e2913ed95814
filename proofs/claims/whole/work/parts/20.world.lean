/-! ===== RollsAgree$World ===== -/
section World
variable {d : Nat} {lay : HL} {VI : VIT} {VL : VLT} {G : VRT} {P : Post} {ext : HL}
def hasF (n p : Int32) : Int32 := if p < 0 then 0 else if n ≤ p then 0 else 1
theorem s_hasPerson {p : Int32} (hP : P (some (.int (hasF (VI 3 0) p))) (LY ++ ext) VI VL (vr G)) : Ex d mi95 0 (entL [.ref 3, .int p] 2) [] (LY ++ ext) VI VL (vr G) 0 0 P := by
  refine x_iload_n rfl rfl ?_
  refine x_if_lt rfl (fun c1 => ?_) (fun c1 => ?_)
  · refine x_iconst rfl ?_
    refine x_zret rfl rfl (by first | exact Or.inl rfl | exact Or.inr rfl) ?_
    simpa [hasF, *] using hP
  · refine x_iload_n rfl rfl ?_
    refine x_aload_n rfl rfl ?_
    refine x_getI rfl rfl rfl ?_
    refine x_icmp_ge rfl (fun c9 => ?_) (fun c9 => ?_)
    · refine x_iconst rfl ?_
      refine x_zret rfl rfl (by first | exact Or.inl rfl | exact Or.inr rfl) ?_
      simpa [hasF, *] using hP
    · refine x_iconst rfl ?_
      refine x_goto rfl ?_
      refine x_zret rfl rfl (by first | exact Or.inl rfl | exact Or.inr rfl) ?_
      simpa [hasF, *] using hP
end World
