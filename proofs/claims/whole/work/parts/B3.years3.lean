/-! ===== years joined ===== -/
set_option maxRecDepth 20000 in
theorem St.years {j : Nat} {ext : HL} {G : VRT} {K : KT} {tn : Nat} {T : Nat → Nat} {u : Nat} {US : Nat → KT} {lg : Nat → Nat} {VI VI' : VIT} (h : St j ext G K tn T u US lg VI) (hF : ∀ a k, kpP a k → a ≠ 70 → a ≠ 71 → a ≠ 76 → a ≠ 99 → ¬ (a = 0 ∧ k = 17) → ¬ (a = 74 ∧ (k = 0 ∨ k = 50)) → VI' a k = VI a k) (hM : RK (VI' 76) K) (hD : Drawn VI') (hs : VI' 0 17 = VI' 74 0) : St (j + 1) ext G K tn T u US lg VI' := by
  obtain ⟨h1, h2, h3, h4, h5, h6, h7, h8, h9, h10, h11, h12⟩ := h
  have hr : ∀ a, ((3 ≤ a ∧ a ≤ 36) ∨ a = 45 ∨ a = 46 ∨ a = 65 ∨ a = 72 ∨ a = 73 ∨ a = 75 ∨ a = 77 ∨ a = 78 ∨ a = 80 ∨ a = 81 ∨ a = 88 ∨ 100 ≤ a) → VI' a = VI a := fun a q => funext (fun k => hF a k (by unfold kpP; omega) (by omega) (by omega) (by omega) (by omega) (by omega) (by omega))
  have hk : ∀ k, (k = 6 ∨ k = 13 ∨ k = 14 ∨ k = 32 ∨ k = 42) → VI' 74 k = VI 74 k := fun k q => hF 74 k (by unfold kpP; omega) (by omega) (by omega) (by omega) (by omega) (by omega) (by omega)
  have h0 : ∀ k, k ≠ 17 → VI' 0 k = VI 0 k := fun k q => hF 0 k (by unfold kpP; omega) (by omega) (by omega) (by omega) (by omega) (by omega) (by omega)
  refine ⟨h1, h2.same (fun a _ _ => hr a (by omega)), hM, ?_, ?_, h6.same (by rw [hr 45 (by omega)]) (hk 32 (by omega)) (hr 46 (by omega)) (hr 88 (by omega)), hD, (h8.same (hF 63 6 (by unfold kpP; omega) (by omega) (by omega) (by omega) (by omega) (by omega) (by omega)) (hr 65 (by omega))).next, h9.same (h0 12 (by omega)) (fun a _ _ => hr a (by omega)) (hr 77 (by omega)) (hr 78 (by omega)) (fun a _ => hr a (by omega)), h10.sameV h1.l6 (fun a _ => hr a (by omega)), ?_, h12⟩
  · obtain ⟨m1, m2, m3, m4, m5⟩ := h4
    refine ⟨hs, ?_, ?_, ?_, fun k hk' => ?_⟩
    · rw [h0 14 (by omega), hk 14 (by omega)]; exact m2
    · rw [h0 15 (by omega), hk 6 (by omega)]; exact m3
    · rw [h0 16 (by omega), hk 42 (by omega)]; exact m4
    · rw [hr 73 (by omega), hr 75 (by omega)]; exact m5 k hk'
  · obtain ⟨t1, t2, t3, t4⟩ := h5
    refine ⟨t1, ?_, ?_, ?_⟩
    · rw [h0 13 (by omega)]; exact t2
    · rw [hk 13 (by omega)]; exact t3
    · rw [hr 72 (by omega), hr 81 (by omega)]; exact t4
  · rw [hr 80 (by omega)]; exact h11
section Years3
variable {d : Nat} {V0 V : VIT} {VL : VLT} {G : VRT} {P : Post} {ext : HL} {K : KT} {sd n : Nat}
set_option maxRecDepth 20000 in
theorem x_years_bad {a b : Int32} (h : a < 0 ∨ 1000000 < a ∨ b < 1 ∨ 100 < b) (hP : P (some (.int (-1))) (LY ++ ext) (up (up V 0 17 (-1)) 73 0 (V 73 0 + 1)) VL (vr G)) : Ex (d + 6) mi139 0 (entL [.ref 0, .int a, .int b] 3) [] (LY ++ ext) V VL (vr G) 0 0 P := by
  refine x_iload_n rfl rfl ?_
  refine x_if_lt rfl (fun c1 => ?_) (fun c1 => ?_)
  · refine x_aload_n rfl rfl ?_
    refine x_iconst rfl ?_
    refine x_callV (M' := mi145) (As := [_]) (bc1 := 0) (bs1 := 0) (bc2 := 0) (bs2 := 0) rfl rfl rfl rfl ok145 rfl rfl (by decide) rfl rfl rfl rfl rfl rfl ?_
    refine s_settled_ref 0 rfl (by decide) ?_
    refine x_iret rfl rfl ?_
    exact hP
  · refine x_iload_n rfl rfl ?_
    refine x_ldc_w rfl ?_
    refine x_icmp_gt rfl (fun c8 => ?_) (fun c8 => ?_)
    · refine x_aload_n rfl rfl ?_
      refine x_iconst rfl ?_
      refine x_callV (M' := mi145) (As := [_]) (bc1 := 0) (bs1 := 0) (bc2 := 0) (bs2 := 0) rfl rfl rfl rfl ok145 rfl rfl (by decide) rfl rfl rfl rfl rfl rfl ?_
      refine s_settled_ref 0 rfl (by decide) ?_
      refine x_iret rfl rfl ?_
      exact hP
    · refine x_iload_n rfl rfl ?_
      refine x_iconst rfl ?_
      refine x_icmp_lt rfl (fun c13 => ?_) (fun c13 => ?_)
      · refine x_aload_n rfl rfl ?_
        refine x_iconst rfl ?_
        refine x_callV (M' := mi145) (As := [_]) (bc1 := 0) (bs1 := 0) (bc2 := 0) (bs2 := 0) rfl rfl rfl rfl ok145 rfl rfl (by decide) rfl rfl rfl rfl rfl rfl ?_
        refine s_settled_ref 0 rfl (by decide) ?_
        refine x_iret rfl rfl ?_
        exact hP
      · refine x_iload_n rfl rfl ?_
        refine x_bipush rfl ?_
        refine x_icmp_le rfl (fun c19 => ?_) (fun c19 => ?_)
        · exact absurd h (fun z => z.elim c1 (fun z => z.elim c8 (fun z => z.elim c13 (fun z => absurd c19 (Int32.not_le.mpr z)))))
        · refine x_aload_n rfl rfl ?_
          refine x_iconst rfl ?_
          refine x_callV (M' := mi145) (As := [_]) (bc1 := 0) (bs1 := 0) (bc2 := 0) (bs2 := 0) rfl rfl rfl rfl ok145 rfl rfl (by decide) rfl rfl rfl rfl rfl rfl ?_
          refine s_settled_ref 0 rfl (by decide) ?_
          refine x_iret rfl rfl ?_
          exact hP
set_option maxRecDepth 20000 in
theorem x_years_0 {a b : Int32} (h : ¬ (a < 0 ∨ 1000000 < a ∨ b < 1 ∨ 100 < b)) (hX : RW 3 K V) (h0 : K 93 = 0) (hP : P (some (.int (-3))) (LY ++ ext) (up (up V 0 17 (-3)) 73 2 (V 73 2 + 1)) VL (vr G)) : Ex (d + 6) mi139 0 (entL [.ref 0, .int a, .int b] 3) [] (LY ++ ext) V VL (vr G) 0 0 P := by
  have hn : V 3 0 = nI 0 := by rw [hX.n, h0]
  refine x_iload_n rfl rfl ?_
  refine x_if_lt rfl (fun c1 => ?_) (fun c1 => ?_)
  · exact absurd (Or.inl c1) h
  refine x_iload_n rfl rfl ?_
  refine x_ldc_w rfl ?_
  refine x_icmp_gt rfl (fun c8 => ?_) (fun c8 => ?_)
  · exact absurd (Or.inr (Or.inl c8)) h
  refine x_iload_n rfl rfl ?_
  refine x_iconst rfl ?_
  refine x_icmp_lt rfl (fun c13 => ?_) (fun c13 => ?_)
  · exact absurd (Or.inr (Or.inr (Or.inl c13))) h
  refine x_iload_n rfl rfl ?_
  refine x_bipush rfl ?_
  refine x_icmp_le rfl (fun c19 => ?_) (fun c19 => ?_)
  rotate_left
  · exact absurd (Or.inr (Or.inr (Or.inr (Int32.not_le.mp c19)))) h
  refine x_aload_n rfl rfl ?_
  refine x_aload_n rfl rfl ?_
  refine x_getR (u := .ref _) rfl rfl rfl rfl ?_
  refine x_getE (y := 0) rfl rfl rfl hn ?_
  refine x_ifN_ne rfl (fun c36 => ?_) (fun c36 => ?_)
  · exact absurd c36 (by first | decide | omega)
  refine x_bipush rfl ?_
  refine x_goto rfl ?_
  refine x_callV (M' := mi145) (As := [_]) (bc1 := 0) (bs1 := 0) (bc2 := 0) (bs2 := 0) rfl rfl rfl rfl ok145 rfl rfl (by decide) rfl rfl rfl rfl rfl rfl ?_
  refine s_settled_ref 2 rfl (by decide) ?_
  refine x_iret rfl rfl ?_
  exact hP
set_option maxRecDepth 20000 in
theorem x_years_ok (h : ¬ (nI sd < 0 ∨ 1000000 < nI sd ∨ nI n < 1 ∨ 100 < nI n)) (hX : RW 3 K V) (hW : WF K) (hL : Laws K 13 (LY ++ ext) V (vr G)) (h0 : 0 < K 93) (hsd : sd ≤ 1000000) (hn : n ≤ 100) (hP : ∀ V' : VIT, FrY V V' → YX K (yrL (K 93) n (sd, K, 0)).2.1 ext G V' → P (some (.int (nI (yrL (K 93) n (sd, K, 0)).2.2))) (LY ++ ext) (up V' 0 17 0) VL (vr G)) : Ex (d + 6) mi139 0 (entL [.ref 0, .int (nI sd), .int (nI n)] 3) [] (LY ++ ext) V VL (vr G) 0 0 P := by
  have h6 := hW.n
  have hle := (yrL_le h0 n (sd, K, 0) ⟨hW, fun _ _ _ => rfl⟩).2
  have hle2 : (yrL (K 93) n (sd, K, 0)).2.2 ≤ 0 + 2 * n := hle
  refine x_iload_n rfl rfl ?_
  refine x_if_lt rfl (fun c1 => ?_) (fun c1 => ?_)
  · exact absurd (Or.inl c1) h
  refine x_iload_n rfl rfl ?_
  refine x_ldc_w rfl ?_
  refine x_icmp_gt rfl (fun c8 => ?_) (fun c8 => ?_)
  · exact absurd (Or.inr (Or.inl c8)) h
  refine x_iload_n rfl rfl ?_
  refine x_iconst rfl ?_
  refine x_icmp_lt rfl (fun c13 => ?_) (fun c13 => ?_)
  · exact absurd (Or.inr (Or.inr (Or.inl c13))) h
  refine x_iload_n rfl rfl ?_
  refine x_bipush rfl ?_
  refine x_icmp_le rfl (fun c19 => ?_) (fun c19 => ?_)
  rotate_left
  · exact absurd (Or.inr (Or.inr (Or.inr (Int32.not_le.mp c19)))) h
  refine x_aload_n rfl rfl ?_
  refine x_aload_n rfl rfl ?_
  refine x_getR (u := .ref _) rfl rfl rfl rfl ?_
  refine x_getE (y := 0) rfl rfl rfl hX.n ?_
  refine x_ifN_ne rfl (fun c36 => ?_) (fun c36 => ?_)
  rotate_left
  · exact absurd c36 (by first | decide | omega)
  refine x_aload_n rfl rfl ?_
  refine x_getR (u := .ref _) rfl rfl rfl rfl ?_
  refine x_iload_n rfl rfl ?_
  refine x_iload_n rfl rfl ?_
  refine x_callV (M' := mi30) (As := [_, _]) (bc1 := 0) (bs1 := 0) (bc2 := 0) (bs2 := 0) rfl rfl rfl rfl ok30 rfl rfl (by decide) rfl rfl rfl rfl rfl rfl ?_
  refine s_years hX hW hL h0 hsd hn (fun V1 hF hA => ?_)
  refine x_callV (M' := mi145) (As := [_]) (bc1 := 0) (bs1 := 0) (bc2 := 0) (bs2 := 0) rfl rfl rfl rfl ok145 rfl rfl (by decide) rfl rfl rfl rfl rfl rfl ?_
  refine s_settled_ok (by omega) ?_
  refine x_iret rfl rfl ?_
  exact hP V1 hF hA
set_option maxRecDepth 20000 in
theorem m_years_bad {a b : Int32} (h : liesF a 0 1000000 = false ∨ liesF b 1 100 = false) (hP : P (some (.int (-1))) (LY ++ ext) (up (up V 74 0 (-1)) 75 1 (V 75 1 + 1)) VL (vr G)) : Ex (d + 46) mi275 0 (entL [.ref 74, .int a, .int b] 8) [] (LY ++ ext) V VL (vr G) 0 0 P := by
  refine x_iload_n rfl rfl ?_
  refine x_iconst rfl ?_
  refine x_ldc rfl ?_
  refine x_callS (M' := mi152) (As := [_, _, _]) (bc1 := 0) (bs1 := 0) (bc2 := 0) (bs2 := 0) rfl rfl rfl rfl ok152 rfl rfl rfl rfl rfl rfl ?_
  refine m_lies ?_
  refine x_if_eq rfl (fun c7 => ?_) (fun c7 => ?_)
  · refine x_aload_n rfl rfl ?_
    refine x_iconst rfl ?_
    refine x_callV (M' := mi154) (As := [_]) (bc1 := 0) (bs1 := 0) (bc2 := 0) (bs2 := 0) rfl rfl rfl rfl ok154 rfl rfl (by decide) rfl rfl rfl rfl rfl rfl ?_
    refine m_refuses 1 rfl (by decide) ?_
    refine x_iret rfl rfl ?_
    exact hP
  · refine x_iload_n rfl rfl ?_
    refine x_iconst rfl ?_
    refine x_bipush rfl ?_
    refine x_callS (M' := mi152) (As := [_, _, _]) (bc1 := 0) (bs1 := 0) (bc2 := 0) (bs2 := 0) rfl rfl rfl rfl ok152 rfl rfl rfl rfl rfl rfl ?_
    refine m_lies ?_
    refine x_if_ne rfl (fun c17 => ?_) (fun c17 => ?_)
    · exact absurd h (fun z => z.elim (fun z => by rw [z] at c7; exact c7 rfl) (fun z => by rw [z] at c17; exact c17 rfl))
    · refine x_aload_n rfl rfl ?_
      refine x_iconst rfl ?_
      refine x_callV (M' := mi154) (As := [_]) (bc1 := 0) (bs1 := 0) (bc2 := 0) (bs2 := 0) rfl rfl rfl rfl ok154 rfl rfl (by decide) rfl rfl rfl rfl rfl rfl ?_
      refine m_refuses 1 rfl (by decide) ?_
      refine x_iret rfl rfl ?_
      exact hP
set_option maxRecDepth 20000 in
theorem m_years_0 {a b : Int32} (h1 : liesF a 0 1000000 = true) (h2 : liesF b 1 100 = true) (hM : RK (V 76) K) (h0 : K 93 = 0) (hP : P (some (.int (-3))) (LY ++ ext) (up (up V 74 0 (-3)) 75 3 (V 75 3 + 1)) VL (vr G)) : Ex (d + 46) mi275 0 (entL [.ref 74, .int a, .int b] 8) [] (LY ++ ext) V VL (vr G) 0 0 P := by
  have hn : V 76 93 = nI 0 := by rw [hM.at 93, h0]
  refine x_iload_n rfl rfl ?_
  refine x_iconst rfl ?_
  refine x_ldc rfl ?_
  refine x_callS (M' := mi152) (As := [_, _, _]) (bc1 := 0) (bs1 := 0) (bc2 := 0) (bs2 := 0) rfl rfl rfl rfl ok152 rfl rfl rfl rfl rfl rfl ?_
  refine m_lies ?_
  rw [h1]
  refine x_if_eq rfl (fun c7 => ?_) (fun c7 => ?_)
  · exact absurd c7 (by first | decide | omega)
  refine x_iload_n rfl rfl ?_
  refine x_iconst rfl ?_
  refine x_bipush rfl ?_
  refine x_callS (M' := mi152) (As := [_, _, _]) (bc1 := 0) (bs1 := 0) (bc2 := 0) (bs2 := 0) rfl rfl rfl rfl ok152 rfl rfl rfl rfl rfl rfl ?_
  refine m_lies ?_
  rw [h2]
  refine x_if_ne rfl (fun c17 => ?_) (fun c17 => ?_)
  rotate_left
  · exact absurd c17 (by first | decide | omega)
  refine x_aload_n rfl rfl ?_
  refine x_getR (u := .ref _) rfl rfl rfl rfl ?_
  refine x_bipush rfl ?_
  refine x_ialE (j := 93) rfl rfl (rfl) (by omega) (hn) ?_
  refine x_ifN_ne rfl (fun c33 => ?_) (fun c33 => ?_)
  · exact absurd c33 (by first | decide | omega)
  refine x_aload_n rfl rfl ?_
  refine x_bipush rfl ?_
  refine x_callV (M' := mi154) (As := [_]) (bc1 := 0) (bs1 := 0) (bc2 := 0) (bs2 := 0) rfl rfl rfl rfl ok154 rfl rfl (by decide) rfl rfl rfl rfl rfl rfl ?_
  refine m_refuses 3 rfl (by decide) ?_
  refine x_iret rfl rfl ?_
  exact hP
set_option maxRecDepth 20000 in
theorem mvK_self {Y : KT} (hY : YOK K Y) : mvK Y K = K := by
  funext i
  unfold mvK
  split
  · rfl
  · exact hY.2 i (by omega) (by omega)
set_option maxRecDepth 20000 in
theorem m_years_ok (h1 : liesF (nI sd) 0 1000000 = true) (h2 : liesF (nI n) 1 100 = true) (hM : RK (V 76) K) (hW : WF K) (hL : LwK K) (h0 : 0 < K 93) (hsd : sd ≤ 1000000) (hn : n ≤ 100) (hP : ∀ V' : VIT, (∀ a k, a ≠ 76 → a ≠ 79 → a ≠ 86 → a ≠ 99 → ¬ (a = 74 ∧ (k = 0 ∨ k = 22 ∨ k = 23 ∨ k = 24 ∨ k = 25 ∨ k = 50 ∨ k = 51)) → V' a k = V a k) → RK (V' 76) K → V' 74 50 = nI (K 93) → V' 74 0 = 0 → (∀ k, k < 24 → V' 99 k = nI ((yrL (K 93) n (sd, K, 0)).2.1 k)) → P (some (.int (nI (yrL (K 93) n (sd, K, 0)).2.2))) (LY ++ ext) V' VL (vr G)) : Ex (d + 46) mi275 0 (entL [.ref 74, .int (nI sd), .int (nI n)] 8) [] (LY ++ ext) V VL (vr G) 0 0 P := by
  have h6 := hW.n
  obtain ⟨hYo, hle⟩ := yrL_le h0 n (sd, K, 0) ⟨hW, fun _ _ _ => rfl⟩
  refine x_iload_n rfl rfl ?_
  refine x_iconst rfl ?_
  refine x_ldc rfl ?_
  refine x_callS (M' := mi152) (As := [_, _, _]) (bc1 := 0) (bs1 := 0) (bc2 := 0) (bs2 := 0) rfl rfl rfl rfl ok152 rfl rfl rfl rfl rfl rfl ?_
  refine m_lies ?_
  rw [h1]
  refine x_if_eq rfl (fun c7 => ?_) (fun c7 => ?_)
  · exact absurd c7 (by first | decide | omega)
  refine x_iload_n rfl rfl ?_
  refine x_iconst rfl ?_
  refine x_bipush rfl ?_
  refine x_callS (M' := mi152) (As := [_, _, _]) (bc1 := 0) (bs1 := 0) (bc2 := 0) (bs2 := 0) rfl rfl rfl rfl ok152 rfl rfl rfl rfl rfl rfl ?_
  refine m_lies ?_
  rw [h2]
  refine x_if_ne rfl (fun c17 => ?_) (fun c17 => ?_)
  rotate_left
  · exact absurd c17 (by first | decide | omega)
  refine x_aload_n rfl rfl ?_
  refine x_getR (u := .ref _) rfl rfl rfl rfl ?_
  refine x_bipush rfl ?_
  refine x_ialE (j := 93) rfl rfl (rfl) (by omega) (hM.at 93) ?_
  refine x_ifN_ne rfl (fun c33 => ?_) (fun c33 => ?_)
  rotate_left
  · exact absurd c33 (by first | decide | omega)
  refine x_aload_n rfl rfl ?_
  refine x_iload_n rfl rfl ?_
  refine x_putI rfl rfl rfl rfl ?_
  refine x_aload_n rfl rfl ?_
  refine x_aload_n rfl rfl ?_
  refine x_getR (u := .ref _) rfl rfl rfl rfl ?_
  refine x_bipush rfl ?_
  refine x_ialE (j := 93) rfl rfl (rfl) (by omega) (hM.at 93) ?_
  refine x_putI rfl rfl rfl rfl ?_
  refine x_aload_n rfl rfl ?_
  refine x_iconst rfl ?_
  refine x_callV (M' := mi160) (As := [_]) (bc1 := 0) (bs1 := 0) (bc2 := 0) (bs2 := 0) rfl rfl rfl rfl ok160 rfl rfl (by decide) rfl rfl rfl rfl rfl rfl ?_
  refine m_laysAside (k := 0) (by omega) ?_
  refine x_iconstN (q := 0) rfl ?_
  refine x_istore_n (ls' := [_, _, _, _, _, _, _, _]) rfl rfl rfl ?_
  refine x_iconstN (q := 0) rfl ?_
  refine x_istore (ls' := [_, _, _, _, _, _, _, _]) rfl rfl rfl ?_
  skip
  have hM2 : RK (uw (up (up V 74 51 (nI sd)) 74 50 (nI (K 93))) 79 (cp (up (up V 74 51 (nI sd)) 74 50 (nI (K 93)) 79) (39 * 0) (up (up V 74 51 (nI sd)) 74 50 (nI (K 93)) 76) 39) 76) K := by rw [uw_ne (by omega), up_ne (by omega), up_ne (by omega)]; exact hM
  refine my_loop (K := K) hW hL h0 hn n 0 _ (sd, K, 0) _ _ _ (by omega) (fun _ _ _ _ _ => rfl) hM2 ⟨hW, fun _ _ _ => rfl⟩ (by rw [uw_ne (by omega), up_at' (by omega), up_at]) (by rw [uw_ne (by omega), up_at]) (by show sd ≤ 1000003; omega) (by show 0 ≤ 0; omega) (fun V3 z4 z5 z6 z7 hF3 hM3 => ?_)
  have e79 : ∀ i, i < 39 → V3 79 (39 * 0 + i) = nI (K i) := fun i hi => by
    rw [hF3 79 _ (by omega) (by omega) (by omega), uw_same]
    unfold cp
    rw [if_pos (by omega), up_ne (by omega), up_ne (by omega), show 39 * 0 + i - 39 * 0 = i by omega]
    exact hM.at i
  refine x_iconstN (q := 0) rfl ?_
  refine x_istore (ls' := [_, _, _, _, _, _, _, _]) rfl rfl rfl ?_
  skip
  have hfin := my_dm (d := d) (V := V3) (VL := VL) (G := G) (P := P) (ext := ext) (n := n) (sd0 := sd) (ch := (yrL (K 93) n (sd, K, 0)).2.2) (z5 := z5) (z6 := z6) (z7 := z7) (fun z => ?_) 24 0 (by omega)
  · rw [cp_0] at hfin
    exact hfin
  · refine x_aload_n rfl rfl ?_
    refine x_iconstN (q := 0) rfl ?_
    refine x_callV (M' := mi161) (As := [_]) (bc1 := 0) (bs1 := 0) (bc2 := 0) (bs2 := 0) rfl rfl rfl rfl ok161 rfl rfl (by decide) rfl rfl rfl rfl rfl rfl ?_
    refine m_takesBack (k := 0) (by omega) ?_
    refine x_aload_n rfl rfl ?_
    refine x_iload_n rfl rfl ?_
    refine x_callV (M' := mi155) (As := [_]) (bc1 := 0) (bs1 := 0) (bc2 := 0) (bs2 := 0) rfl rfl rfl rfl ok155 rfl rfl (by decide) rfl rfl rfl rfl rfl rfl ?_
    refine m_good ?_
    skip
    refine x_iret rfl rfl (hP _ (fun a k q1 q2 q3 q4 q5 => ?_) ?_ ?_ ?_ (fun k hk => ?_))
    · rw [up_ne2 (by omega), uw_ne q1, uw_ne q4, hF3 a k q1 q3 (by omega), uw_ne q2, up_ne2 (by omega), up_ne2 (by omega)]
    · rw [up_ne (by omega), uw_same, ← mvK_self hYo]
      refine mvK_RK (by rw [uw_ne (by omega)]; exact hM3) (fun k hk => ?_)
      rw [uw_ne (by omega)]
      exact e79 k hk
    · rw [up_at' (by omega), uw_ne (by omega), uw_ne (by omega), hF3 74 50 (by omega) (by omega) (by omega), uw_ne (by omega), up_at]
    · rw [up_at]
    · rw [up_ne (by omega), uw_ne (by omega), uw_same]
      unfold cp
      rw [if_pos (by omega), Nat.sub_zero]
      exact hM3.at k
end Years3
section Join17
variable {j : Nat} {lay : HL} {VI : VIT} {VL : VLT} {VR : VRT}
set_option maxRecDepth 20000 in
theorem j_years {a b : Int32} (h : Inv j lay VI VL VR) : Pr 100 mi139 mi275 [.int a, .int b] lay VI VL VR (Inv (j + 1)) := by
  obtain ⟨ext, G, K, tn, T, u, US, lg, rfl, rfl, hS⟩ := h
  have hW := hS.1
  have hX := hS.2.1
  have hM := hS.2.2.1
  have hL := hS.2.2.2.2.2.2.2.2.2.1
  have h6 := hW.n
  by_cases hb : a < 0 ∨ 1000000 < a ∨ b < 1 ∨ 100 < b
  · have hb2 : liesF a 0 1000000 = false ∨ liesF b 1 100 = false := by
      simp only [liesF, decide_eq_false_iff_not, not_and]
      rcases hb with z | z | z | z
      · exact Or.inl (fun z1 => absurd z z1)
      · exact Or.inl (fun _ => Classical.not_not.mpr z)
      · exact Or.inr (fun z1 => absurd z z1)
      · exact Or.inr (fun _ => Classical.not_not.mpr z)
    exact Pr_ref hS 0 (by omega) (-1) (fun P z => x_years_bad hb z) (fun P z => m_years_bad hb2 z)
  have l1 : liesF a 0 1000000 = true := by
    simp only [liesF, decide_eq_true_eq]
    exact ⟨fun z => hb (Or.inl z), fun z => hb (Or.inr (Or.inl z))⟩
  have l2 : liesF b 1 100 = true := by
    simp only [liesF, decide_eq_true_eq]
    exact ⟨fun z => hb (Or.inr (Or.inr (Or.inl z))), fun z => hb (Or.inr (Or.inr (Or.inr z)))⟩
  by_cases h0 : K 93 = 0
  · exact Pr_ref hS 2 (by omega) (-3) (fun P z => x_years_0 hb hX h0 z) (fun P z => m_years_0 l1 l2 (K := K) (by rw [up_ne (by omega), up_ne (by omega)]; exact hM) h0 z)
  obtain ⟨sd, rfl, hsd⟩ := nI_back (a := a) (fun z => hb (Or.inl z))
  have b0 : ¬ b < 0 := fun z => hb (Or.inr (Or.inr (Or.inl (by rw [Int32.lt_iff_toInt_lt] at z ⊢; have e0 : (0 : Int32).toInt = 0 := rfl; have e1 : (1 : Int32).toInt = 1 := rfl; omega))))
  obtain ⟨n, rfl, hn⟩ := nI_back b0
  have hsd2 : sd ≤ 1000000 := by
    have : ¬ (1000000 : Int32) < nI sd := fun z => hb (Or.inr (Or.inl z))
    rw [Int32.lt_iff_toInt_lt] at this
    have e1 : (1000000 : Int32).toInt = 1000000 := rfl
    omega
  have hn2 : n ≤ 100 := by
    have : ¬ (100 : Int32) < nI n := fun z => hb (Or.inr (Or.inr (Or.inr z)))
    rw [Int32.lt_iff_toInt_lt] at this
    have e1 : (100 : Int32).toInt = 100 := rfl
    omega
  refine ExS.budget (bc := 0) (bs := 0) (x_years_ok hb hX hW hL (by omega) hsd2 hn2 (fun V1 hF hA => ⟨_, ext, rfl, rfl, ?_⟩)) (by omega) (by omega)
  have hM1 : RK (up V1 0 17 0 76) K := by
    rw [up_ne (by omega), show V1 76 = VI 76 from funext (fun k => hF 76 k (by omega) (by omega) (by omega) (by omega) (by omega))]; exact hM
  refine m_years_ok l1 l2 hM1 hW hL.K (by omega) hsd2 hn2 (fun V2 g1 g2 g3 g4 g5 => ⟨rfl, ?_⟩)
  have e17 : V2 0 17 = 0 := by rw [g1 0 17 (by omega) (by omega) (by omega) (by omega) (by omega), up_at]
  refine (hS.years (fun a k q q1 q2 q3 q4 q5 q6 => ?_) g2 (Or.inr ⟨K 93, h6, ?_, g3, fun k hk => ?_⟩) (by rw [e17, g4])).inv
  · unfold kpP at q
    rw [g1 a k q3 (by omega) (by omega) q4 (by omega), up_ne2 q5]
    exact hF a k (by omega) (by omega) (by omega) q1 q2
  · rw [g1 70 3 (by omega) (by omega) (by omega) (by omega) (by omega), up_ne (by omega)]
    exact hA.2.2.1
  · rw [g1 71 k (by omega) (by omega) (by omega) (by omega) (by omega), up_ne (by omega), g5 k (by omega)]
    have := hA.2.2.2 (k / 4) (k % 4) (by omega) (by omega)
    rw [show k / 4 * 4 + k % 4 = k by omega, show 4 * (k / 4) + k % 4 = k by omega] at this
    exact this
end Join17
