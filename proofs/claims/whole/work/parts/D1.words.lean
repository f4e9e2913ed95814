/-! ===== words: both sides' tables ===== -/
def cWl : List Nat := [116, 97, 107, 101, 115, 32, 115, 119, 97, 121, 115, 32, 98, 97, 114, 115, 32, 116, 97, 108, 107, 32, 100, 101, 118, 101, 108, 111, 112, 32, 98, 117, 114, 121, 32, 112, 97, 115, 115, 32, 119, 105, 116, 104, 32, 111, 102, 32, 116, 105, 109, 101, 115, 32, 105, 102, 32, 110, 111, 116, 32, 97, 110, 100, 32, 111, 114, 32, 112, 101, 114, 115, 111, 110, 32, 111, 116, 104, 101, 114, 32, 109, 97, 114, 107, 32, 105, 116, 115, 32, 102, 105, 114, 109, 32, 97, 103, 101, 32, 100, 97, 121, 32, 119, 101, 101, 107, 32, 109, 111, 111, 100, 32, 100, 111, 110, 101, 32, 108, 97, 116, 101, 115, 116, 32, 108, 105, 118, 105, 110, 103, 32, 97, 103, 114, 101, 101, 115]
def mWl : List Nat := [116, 97, 107, 101, 115, 32, 115, 119, 97, 121, 115, 32, 98, 97, 114, 115, 32, 105, 102, 32, 111, 114, 32, 97, 110, 100, 32, 110, 111, 116, 32, 112, 101, 114, 115, 111, 110, 32, 111, 116, 104, 101, 114, 32, 105, 116, 115, 32, 102, 105, 114, 109, 32, 97, 103, 101, 32, 100, 97, 121, 32, 109, 111, 111, 100, 32, 109, 97, 114, 107, 32, 119, 101, 101, 107, 32, 100, 111, 110, 101, 32, 108, 97, 116, 101, 115, 116, 32, 108, 105, 118, 105, 110, 103, 32, 97, 103, 114, 101, 101, 115, 32, 116, 97, 108, 107, 32, 119, 105, 116, 104, 32, 111, 102, 32, 100, 101, 118, 101, 108, 111, 112, 32, 98, 117, 114, 121, 32, 112, 97, 115, 115, 32, 116, 105, 109, 101, 115, 32]
def cW (j : Nat) : Nat := cWl.getD j 0
def mW (j : Nat) : Nat := mWl.getD j 0
def wlC (w : Nat) : Nat := [5, 5, 4, 4, 7, 4, 4, 4, 2, 5, 2, 3, 3, 2, 6, 5, 4, 3, 4, 3, 3, 4, 4, 4, 6, 6, 6].getD w 0
def woC (w : Nat) : Nat := [0, 6, 12, 17, 22, 30, 35, 40, 45, 48, 54, 57, 61, 65, 68, 75, 81, 86, 90, 95, 99, 103, 108, 113, 118, 125, 132, 139].getD w 0
def wlM (w : Nat) : Nat := [5, 5, 4, 2, 2, 3, 3, 6, 5, 3, 4, 3, 3, 4, 4, 4, 4, 6, 6, 6, 4, 4, 2, 7, 4, 4, 5].getD w 0
def woM (w : Nat) : Nat := [0, 6, 12, 17, 20, 23, 27, 31, 38, 44, 48, 53, 57, 61, 66, 71, 76, 81, 88, 95, 102, 107, 112, 115, 123, 128, 133, 139].getD w 0
/-- the model's code of the class's word -/
def wpi (w : Nat) : Nat := [1, 2, 3, 21, 24, 25, 26, 22, 23, 27, 4, 7, 6, 5, 8, 9, 15, 10, 11, 12, 13, 16, 14, 17, 18, 19, 20].getD w 0
set_option maxRecDepth 20000 in
theorem cW_by : ∀ j, j < 138 → wordsBy.getD j 0 = nI (cW j) ∧ cW j < 128 := by decide +kernel
set_option maxRecDepth 20000 in
theorem woC_step : ∀ w, w < 27 → woC (w + 1) = woC w + wlC w + 1 ∧ woC w + wlC w ≤ 138 ∧ (woC w + wlC w = 138 ∨ cW (woC w + wlC w) = 32) := by decide +kernel
set_option maxRecDepth 20000 in
theorem woC_in : ∀ w, w < 27 → ∀ j, j < wlC w → cW (woC w + j) ≠ 32 ∧ woC w + j < 138 := by decide +kernel
set_option maxRecDepth 20000 in
theorem woM_step : ∀ w, w < 27 → woM (w + 1) = woM w + wlM w + 1 ∧ woM w + wlM w < 139 ∧ mW (woM w + wlM w) = 32 := by decide +kernel
set_option maxRecDepth 20000 in
theorem woM_in : ∀ w, w < 27 → ∀ j, j < wlM w → mW (woM w + j) ≠ 32 ∧ mW (woM w + j) < 128 ∧ woM w + j < 139 := by decide +kernel
set_option maxRecDepth 20000 in
theorem wpi_same : ∀ w, w < 27 → 1 ≤ wpi w ∧ wpi w ≤ 27 ∧ wlC w = wlM (wpi w - 1) ∧ ∀ j, j < wlC w → cW (woC w + j) = mW (woM (wpi w - 1) + j) := by decide +kernel
set_option maxRecDepth 20000 in
theorem wpi_onto : ∀ m, m < 27 → ∃ w, w < 27 ∧ wpi w = m + 1 := by decide +kernel
set_option maxRecDepth 20000 in
theorem wM_dist : ∀ a, a < 27 → ∀ b, b < 27 → a ≠ b → wlM a ≠ wlM b ∨ ∃ j, j < wlM a ∧ mW (woM a + j) ≠ mW (woM b + j) := by decide +kernel
/-- whether the bytes from st to en are a word of a table -/
def eqT (tab : Nat → Nat) (o l : Nat) (T : Nat → Nat) (st en : Nat) : Prop := l = en - st ∧ ∀ j, j < l → tab (o + j) = T (st + j)
set_option maxRecDepth 20000 in
theorem eqT_pi {T : Nat → Nat} {st en w : Nat} (hw : w < 27) : eqT cW (woC w) (wlC w) T st en ↔ eqT mW (woM (wpi w - 1)) (wlM (wpi w - 1)) T st en := by
  obtain ⟨a1, a2, a3, a4⟩ := wpi_same w hw
  unfold eqT
  rw [← a3]
  exact ⟨fun ⟨h1, h2⟩ => ⟨h1, fun j hj => by rw [← a4 j hj]; exact h2 j hj⟩, fun ⟨h1, h2⟩ => ⟨h1, fun j hj => by rw [a4 j hj]; exact h2 j hj⟩⟩
set_option maxRecDepth 20000 in
theorem eqM_uni {T : Nat → Nat} {st en a b : Nat} (ha : a < 27) (hb : b < 27) (h1 : eqT mW (woM a) (wlM a) T st en) (h2 : eqT mW (woM b) (wlM b) T st en) : a = b := by
  apply Classical.byContradiction
  intro hn
  rcases wM_dist a ha b hb hn with z | ⟨j, hj, z⟩
  · exact z (h1.1.trans h2.1.symm)
  · exact z ((h1.2 j hj).trans (h2.2 j (by rw [h2.1, ← h1.1]; exact hj)).symm)
/-- what a word comes to in the model: 0, or its code -/
def WrM (T : Nat → Nat) (st en c : Nat) : Prop := (c = 0 ∧ ∀ w, w < 27 → ¬ eqT mW (woM w) (wlM w) T st en) ∨ (1 ≤ c ∧ c ≤ 27 ∧ eqT mW (woM (c - 1)) (wlM (c - 1)) T st en)
def WrC (T : Nat → Nat) (st en t : Nat) : Prop := (t = 257 ∧ ∀ w, w < 27 → ¬ eqT cW (woC w) (wlC w) T st en) ∨ ∃ w, w < 27 ∧ t = 300 + w ∧ eqT cW (woC w) (wlC w) T st en
set_option maxRecDepth 20000 in
theorem Wr_same {T : Nat → Nat} {st en t c : Nat} (h1 : WrC T st en t) (h2 : WrM T st en c) : (t = 257 ∧ c = 0) ∨ ∃ w, w < 27 ∧ t = 300 + w ∧ c = wpi w := by
  rcases h1 with ⟨e1, n1⟩ | ⟨w, w1, w2, w3⟩
  · rcases h2 with ⟨e2, n2⟩ | ⟨c1, c2, c3⟩
    · exact Or.inl ⟨e1, e2⟩
    · obtain ⟨w, q1, q2⟩ := wpi_onto (c - 1) (by omega)
      refine absurd ((eqT_pi q1).mpr ?_) (n1 w q1)
      rw [show wpi w - 1 = c - 1 by omega]
      exact c3
  · have hm := (eqT_pi w1).mp w3
    obtain ⟨a1, a2, -, -⟩ := wpi_same w w1
    rcases h2 with ⟨e2, n2⟩ | ⟨c1, c2, c3⟩
    · exact absurd hm (n2 _ (by omega))
    · have := eqM_uni (by omega) (by omega) hm c3
      exact Or.inr ⟨w, w1, w2, by omega⟩
section Words
variable {d : Nat} {V : VIT} {VL : VLT} {G : VRT} {P : Post} {ext : HL} {T : Nat → Nat} {tn st en : Nat}
set_option maxRecDepth 20000 in
theorem x_sameWord (hT : ∀ k, k < tn → T k < 256 ∧ V 72 k = nI (T k)) (htn : tn ≤ 400) {w : Nat} (hw : w < 27) (hl : st + wlC w ≤ tn) (hy : eqT cW (woC w) (wlC w) T st (st + wlC w) → P (some (.int (nI 1))) (LY ++ ext) V VL (vr G)) (hno : ¬ eqT cW (woC w) (wlC w) T st (st + wlC w) → P (some (.int (nI 0))) (LY ++ ext) V VL (vr G)) : Ex (d + 4) mi45 0 (entL [.ref 72, .int (nI st), .int (nI (woC w)), .int (nI (woC w + wlC w))] 5) [] (LY ++ ext) V VL (vr G) 0 0 P := by
  obtain ⟨o1, o2, o3⟩ := woC_step w hw
  have hlp : ∀ (m j : Nat), j + m = wlC w → (∀ i, i < j → cW (woC w + i) = T (st + i)) → Ex (d + 4) mi45 3 [.ref 72, .int (nI st), .int (nI (woC w)), .int (nI (woC w + wlC w)), .int (nI (woC w + j))] [] (LY ++ ext) V VL (vr G) 0 0 P := by
    intro m
    induction m with
    | zero =>
      intro j hj hq
      refine x_iload rfl rfl ?_
      refine x_iload_n rfl rfl ?_
      refine x_icmpN_ge rfl (fun c6 => ?_) (fun c6 => ?_)
      rotate_left
      · exact absurd c6 (by first | decide | omega)
      refine x_iconstN (q := 1) rfl ?_
      refine x_zret rfl rfl (by first | exact Or.inl rfl | exact Or.inr rfl) ?_
      exact hy ⟨by omega, fun i hi => hq i (by omega)⟩ | succ m ih =>
      intro j hj hq
      obtain ⟨i1, i2⟩ := woC_in w hw j (by omega)
      obtain ⟨b1_, b2_⟩ := cW_by (woC w + j) i2
      obtain ⟨t1, t2⟩ := hT (st + j) (by omega)
      by_cases c : cW (woC w + j) = T (st + j)
      · refine x_iload rfl rfl ?_
        refine x_iload_n rfl rfl ?_
        refine x_icmpN_ge rfl (fun c6 => ?_) (fun c6 => ?_)
        · exact absurd c6 (by first | decide | omega)
        refine x_ldcS rfl rfl ?_
        refine x_iload rfl rfl ?_
        refine x_callF (M' := mi284) (As := [_]) (bc1 := 0) (bs1 := 0) (bc2 := 0) (bs2 := 0) rfl rfl rfl rfl ok284 rfl rfl rfl rfl rfl rfl rfl ?_
        refine s_charAt i2 ?_
        rw [b1_]
        refine x_aload_n rfl rfl ?_
        refine x_iload_n rfl rfl ?_
        refine x_iload rfl rfl ?_
        refine x_iaddN rfl ?_
        refine x_iload_n rfl rfl ?_
        refine x_isubN rfl ?_
        refine x_ialE (j := st + j) rfl rfl (congrArg nI (by omega)) (by omega) (t2) ?_
        refine x_icmpN_eq rfl (fun c24 => ?_) (fun c24 => ?_)
        rotate_left
        · exact absurd c24 (by first | decide | omega)
        refine x_iincN (q := 1) (ls' := [_, _, _, _, _]) rfl rfl rfl rfl ?_
        refine x_goto rfl ?_
        exact ih (j + 1) (by omega) (fun i hi => by by_cases e : i = j; subst e; exact c; exact hq i (by omega))
      · refine x_iload rfl rfl ?_
        refine x_iload_n rfl rfl ?_
        refine x_icmpN_ge rfl (fun c6 => ?_) (fun c6 => ?_)
        · exact absurd c6 (by first | decide | omega)
        refine x_ldcS rfl rfl ?_
        refine x_iload rfl rfl ?_
        refine x_callF (M' := mi284) (As := [_]) (bc1 := 0) (bs1 := 0) (bc2 := 0) (bs2 := 0) rfl rfl rfl rfl ok284 rfl rfl rfl rfl rfl rfl rfl ?_
        refine s_charAt i2 ?_
        rw [b1_]
        refine x_aload_n rfl rfl ?_
        refine x_iload_n rfl rfl ?_
        refine x_iload rfl rfl ?_
        refine x_iaddN rfl ?_
        refine x_iload_n rfl rfl ?_
        refine x_isubN rfl ?_
        refine x_ialE (j := st + j) rfl rfl (congrArg nI (by omega)) (by omega) (t2) ?_
        refine x_icmpN_eq rfl (fun c24 => ?_) (fun c24 => ?_)
        · exact absurd c24 (by first | decide | omega)
        refine x_iconstN (q := 0) rfl ?_
        refine x_zret rfl rfl (by first | exact Or.inl rfl | exact Or.inr rfl) ?_
        exact hno (fun z => c (z.2 j (by omega)))
  refine x_iload_n rfl rfl ?_
  refine x_istore (ls' := [_, _, _, _, _]) rfl rfl rfl ?_
  exact hlp (wlC w) 0 (by omega) (fun i hi => absurd hi (by omega))
set_option maxRecDepth 20000 in
theorem x_wordAt (hT : ∀ k, k < tn → T k < 256 ∧ V 72 k = nI (T k)) (htn : tn ≤ 400) (hse : st < en) (hen : en ≤ tn) (hP : ∀ t, WrC T st en t → P (some (.int (nI t))) (LY ++ ext) V VL (vr G)) : Ex (d + 5) mi44 0 (entL [.ref 72, .int (nI st), .int (nI en)] 6) [] (LY ++ ext) V VL (vr G) 0 0 P := by
  have hwl : wordsLn = 138 := rfl
  have hlp : ∀ (m w : Nat), w + m = 27 → (∀ i, i < w → ¬ eqT cW (woC i) (wlC i) T st en) → Ex (d + 5) mi44 10 [.ref 72, .int (nI st), .int (nI en), .int (nI (300 + w)), .int (nI (woC w)), .int (nI (woC w))] [] (LY ++ ext) V VL (vr G) 0 0 P := by
    intro m
    induction m with
    | zero =>
      intro w hw hq
      have e : w = 27 := by omega
      subst e
      have e2 : woC 27 = 139 := rfl
      rw [e2]
      refine x_iload rfl rfl ?_
      refine x_ldcS rfl rfl ?_
      refine x_callF (M' := mi288) (As := []) (bc1 := 0) (bs1 := 0) (bc2 := 0) (bs2 := 0) rfl rfl rfl rfl ok288 rfl rfl rfl rfl rfl rfl rfl ?_
      refine s_strLen ?_
      refine x_icmpN_gt rfl (fun c17 => ?_) (fun c17 => ?_)
      rotate_left
      · exact absurd c17 (by first | decide | omega)
      refine x_sipushN (q := 257) rfl ?_
      refine x_iret rfl rfl ?_
      exact hP 257 (Or.inl ⟨rfl, hq⟩) | succ m ih =>
      intro w hw hq
      have hw27 : w < 27 := by omega
      obtain ⟨o1, o2, o3⟩ := woC_step w hw27
      have hin : ∀ (m2 j : Nat), j + m2 = wlC w → Ex (d + 5) mi44 10 [.ref 72, .int (nI st), .int (nI en), .int (nI (300 + w)), .int (nI (woC w)), .int (nI (woC w + j))] [] (LY ++ ext) V VL (vr G) 0 0 P := by
        intro m2
        induction m2 with
        | zero =>
          intro j hj
          have ej : j = wlC w := by omega
          subst ej
          have hsep : Ex (d + 5) mi44 42 [.ref 72, .int (nI st), .int (nI en), .int (nI (300 + w)), .int (nI (woC w)), .int (nI (woC w + wlC w))] [] (LY ++ ext) V VL (vr G) 0 0 P := by
            have hnext : ¬ eqT cW (woC w) (wlC w) T st en → Ex (d + 5) mi44 67 [.ref 72, .int (nI st), .int (nI en), .int (nI (300 + w)), .int (nI (woC w)), .int (nI (woC w + wlC w))] [] (LY ++ ext) V VL (vr G) 0 0 P := by
              intro hne
              have hk := ih (w + 1) (by omega) (fun i hi => by by_cases e : i = w; subst e; exact hne; exact hq i (by omega))
              rw [o1] at hk
              refine x_iincN (q := 1) (ls' := [_, _, _, _, _, _]) rfl rfl rfl rfl ?_
              refine x_iload rfl rfl ?_
              refine x_iconstN (q := 1) rfl ?_
              refine x_iaddN rfl ?_
              refine x_istore (ls' := [_, _, _, _, _, _]) rfl rfl rfl ?_
              refine x_iincN (q := 1) (ls' := [_, _, _, _, _, _]) rfl rfl rfl rfl ?_
              refine x_goto rfl ?_
              exact hk
            by_cases c : wlC w = en - st
            · have ee : st + wlC w = en := by omega
              refine x_iload rfl rfl ?_
              refine x_iload rfl rfl ?_
              refine x_isubN rfl ?_
              refine x_iload_n rfl rfl ?_
              refine x_iload_n rfl rfl ?_
              refine x_isubN rfl ?_
              refine x_icmpN_ne rfl (fun c50 => ?_) (fun c50 => ?_)
              · exact absurd c50 (by first | decide | omega)
              refine x_aload_n rfl rfl ?_
              refine x_iload_n rfl rfl ?_
              refine x_iload rfl rfl ?_
              refine x_iload rfl rfl ?_
              refine x_callS (M' := mi45) (As := [_, _, _, _]) (bc1 := 0) (bs1 := 0) (bc2 := 0) (bs2 := 0) rfl rfl rfl rfl ok45 rfl rfl rfl rfl rfl rfl ?_
              refine x_sameWord hT htn hw27 (by omega) (fun h => ?_) (fun h => ?_)
              skip
              · rw [ee] at h
                refine x_ifN_eq rfl (fun c62 => ?_) (fun c62 => ?_)
                · exact absurd c62 (by first | decide | omega)
                refine x_iload_n rfl rfl ?_
                refine x_iret rfl rfl ?_
                exact hP (300 + w) (Or.inr ⟨w, hw27, rfl, h⟩)
              · rw [ee] at h
                refine x_ifN_eq rfl (fun c62 => ?_) (fun c62 => ?_)
                rotate_left
                · exact absurd c62 (by first | decide | omega)
                exact hnext h
            · refine x_iload rfl rfl ?_
              refine x_iload rfl rfl ?_
              refine x_isubN rfl ?_
              refine x_iload_n rfl rfl ?_
              refine x_iload_n rfl rfl ?_
              refine x_isubN rfl ?_
              refine x_icmpN_ne rfl (fun c50 => ?_) (fun c50 => ?_)
              rotate_left
              · exact absurd c50 (by first | decide | omega)
              exact hnext (fun h => c h.1)
          by_cases c138 : woC w + wlC w = 138
          · refine x_iload rfl rfl ?_
            refine x_ldcS rfl rfl ?_
            refine x_callF (M' := mi288) (As := []) (bc1 := 0) (bs1 := 0) (bc2 := 0) (bs2 := 0) rfl rfl rfl rfl ok288 rfl rfl rfl rfl rfl rfl rfl ?_
            refine s_strLen ?_
            refine x_icmpN_gt rfl (fun c17 => ?_) (fun c17 => ?_)
            · exact absurd c17 (by first | decide | omega)
            refine x_iload rfl rfl ?_
            refine x_ldcS rfl rfl ?_
            refine x_callF (M' := mi288) (As := []) (bc1 := 0) (bs1 := 0) (bc2 := 0) (bs2 := 0) rfl rfl rfl rfl ok288 rfl rfl rfl rfl rfl rfl rfl ?_
            refine s_strLen ?_
            refine x_icmpN_eq rfl (fun c27 => ?_) (fun c27 => ?_)
            rotate_left
            · exact absurd c27 (by first | decide | omega)
            exact hsep
          · have hlt : woC w + wlC w < 138 := by omega
            have h32 : cW (woC w + wlC w) = 32 := o3.elim (fun z => absurd z c138) id
            obtain ⟨b1_, b2_⟩ := cW_by _ hlt
            refine x_iload rfl rfl ?_
            refine x_ldcS rfl rfl ?_
            refine x_callF (M' := mi288) (As := []) (bc1 := 0) (bs1 := 0) (bc2 := 0) (bs2 := 0) rfl rfl rfl rfl ok288 rfl rfl rfl rfl rfl rfl rfl ?_
            refine s_strLen ?_
            refine x_icmpN_gt rfl (fun c17 => ?_) (fun c17 => ?_)
            · exact absurd c17 (by first | decide | omega)
            refine x_iload rfl rfl ?_
            refine x_ldcS rfl rfl ?_
            refine x_callF (M' := mi288) (As := []) (bc1 := 0) (bs1 := 0) (bc2 := 0) (bs2 := 0) rfl rfl rfl rfl ok288 rfl rfl rfl rfl rfl rfl rfl ?_
            refine s_strLen ?_
            refine x_icmpN_eq rfl (fun c27 => ?_) (fun c27 => ?_)
            · exact absurd c27 (by first | decide | omega)
            refine x_ldcS rfl rfl ?_
            refine x_iload rfl rfl ?_
            refine x_callF (M' := mi284) (As := [_]) (bc1 := 0) (bs1 := 0) (bc2 := 0) (bs2 := 0) rfl rfl rfl rfl ok284 rfl rfl rfl rfl rfl rfl rfl ?_
            refine s_charAt hlt ?_
            rw [b1_, h32]
            refine x_bipushN (q := 32) rfl ?_
            refine x_icmpN_ne rfl (fun c39 => ?_) (fun c39 => ?_)
            · exact absurd c39 (by first | decide | omega)
            exact hsep | succ m2 ih2 =>
          intro j hj
          obtain ⟨i1, i2⟩ := woC_in w hw27 j (by omega)
          obtain ⟨b1_, b2_⟩ := cW_by _ i2
          refine x_iload rfl rfl ?_
          refine x_ldcS rfl rfl ?_
          refine x_callF (M' := mi288) (As := []) (bc1 := 0) (bs1 := 0) (bc2 := 0) (bs2 := 0) rfl rfl rfl rfl ok288 rfl rfl rfl rfl rfl rfl rfl ?_
          refine s_strLen ?_
          refine x_icmpN_gt rfl (fun c17 => ?_) (fun c17 => ?_)
          · exact absurd c17 (by first | decide | omega)
          refine x_iload rfl rfl ?_
          refine x_ldcS rfl rfl ?_
          refine x_callF (M' := mi288) (As := []) (bc1 := 0) (bs1 := 0) (bc2 := 0) (bs2 := 0) rfl rfl rfl rfl ok288 rfl rfl rfl rfl rfl rfl rfl ?_
          refine s_strLen ?_
          refine x_icmpN_eq rfl (fun c27 => ?_) (fun c27 => ?_)
          · exact absurd c27 (by first | decide | omega)
          refine x_ldcS rfl rfl ?_
          refine x_iload rfl rfl ?_
          refine x_callF (M' := mi284) (As := [_]) (bc1 := 0) (bs1 := 0) (bc2 := 0) (bs2 := 0) rfl rfl rfl rfl ok284 rfl rfl rfl rfl rfl rfl rfl ?_
          refine s_charAt i2 ?_
          rw [b1_]
          refine x_bipushN (q := 32) rfl ?_
          refine x_icmpN_ne rfl (fun c39 => ?_) (fun c39 => ?_)
          rotate_left
          · exact absurd c39 (by first | decide | omega)
          refine x_iincN (q := 1) (ls' := [_, _, _, _, _, _]) rfl rfl rfl rfl ?_
          refine x_goto rfl ?_
          exact ih2 (j + 1) (by omega)
      exact hin (wlC w) 0 (by omega)
  refine x_sipushN (q := 300) rfl ?_
  refine x_istore_n (ls' := [_, _, _, _, _, _]) rfl rfl rfl ?_
  refine x_iconstN (q := 0) rfl ?_
  refine x_istore (ls' := [_, _, _, _, _, _]) rfl rfl rfl ?_
  refine x_iconstN (q := 0) rfl ?_
  refine x_istore (ls' := [_, _, _, _, _, _]) rfl rfl rfl ?_
  exact hlp 27 0 (by omega) (fun i hi => absurd hi (by omega))
end Words
