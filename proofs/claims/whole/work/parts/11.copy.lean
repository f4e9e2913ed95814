theorem clampInt {z : Int32} (hz : ¬ z < 0) : z.toInt = (z.toNatClampNeg : Int) := by
  have hz0 : (0 : Int) ≤ z.toInt := by
    have := Int32.not_lt.mp hz
    simpa using Int32.le_iff_toInt_le.mp this
  show z.toInt = ((z.toInt.toNat : Nat) : Int)
  omega
theorem in_acl {ow i : Nat} (h : acl.elem (ow, i) = true) : (ow, i) ∈ acl := List.elem_iff.mp h
section XY
variable {S : SPr} {d : Nat} {M : MI} {pc nx x y : Nat} {v : Int32} {w : Int64} {ls ls' st : List Value} {lay : HL} {VI : VIT} {VL : VLT} {VR : VRT} {bc bs : Nat} {P : Post}
set_option maxHeartbeats 4000000 in
theorem x_copy {i a0 a n0 n1 : Nat} (hc : lkp (mC M) pc = some (.invokestatic i, 3, nx, 1001, 0, v, w)) {sp dp n : Int32} (hy0 : lay[a0]? = some (.inl (0, n0))) (hy1 : lay[a]? = some (.inl (0, n1))) (k1 : ¬ sp < 0) (k2 : ¬ dp < 0) (k3 : ¬ n < 0) (k4 : sp.toNatClampNeg + n.toNatClampNeg ≤ n0) (k5 : dp.toNatClampNeg + n.toNatClampNeg ≤ n1) (hcat : Nat.ble (st.map (fun v => v.category)).sum 8 = true)
    (k : ExS S d M nx ls st lay (uw VI a (va_cpy (VI a0) (VI a) sp.toNatClampNeg dp.toNatClampNeg n.toNatClampNeg)) VL VR bc bs P) : ExS S d M pc ls (.int n :: .int dp :: .ref a :: .int sp :: .ref a0 :: st) lay VI VL VR bc bs P := by
  intro p l e R s m args below meth c H locs cells slots base sa sv D dA lsC C hH hS hl h1 h2
  obtain ⟨g1, g2, g3⟩ := dec' C.2.2.2.2.2.2.2.2.2.2.2.1 hc
  subst g2
  have hm : (mO M, i) ∈ acl := by
    have g4 := g3
    simp only [insOK, Bool.or_eq_true, Bool.and_eq_true, beq_iff_eq] at g4
    rcases g4 with (⟨⟨-, h0⟩, -⟩ | ⟨-, h0⟩) | ⟨h0, -⟩
    · exact absurd h0 (by decide)
    · exact in_acl h0
    · exact absurd h0 (by decide)
  have hts := C.2.2.2.2.2.1
  have hK := C.2.2.2.2.2.2.1.1
  have hfr := C.2.2.2.2.2.2.2.2.2.1
  have hlo := C.2.2.2.2.2.2.2.2.2.2.1
  have hx := C.1
  have hb := C.2.1
  unfold frs at hfr; unfold lcs at hlo
  have hs : (List.map (fun v => v.category) (List.map (mv base sa) st)).sum ≤ 8 := by simpa [Function.comp_def, mv_cat] using hcat
  have kk := k p l e R s m args below meth c
  have hnf : nativeFrameWords "java/lang/System" "arraycopy" 5 ≤ 60 := by decide
  intro T hT X
  have hc0 : H[base + a0]? = some (vp_cell (dA 0) (n0, .inl (VI a0))) := hH.2 a0 _ (wsC_at hy0)
  have hc1 : H[base + a]? = some (vp_cell (dA 0) (n1, .inl (VI a))) := hH.2 a _ (wsC_at hy1)
  obtain ⟨-, q0, hk0, cm0, hkk0⟩ := (hK.2 0 _ rfl).1 n0 (fun j => .int (VI a0 j))
  obtain ⟨-, q1, hk1, cm1, hkk1⟩ := (hK.2 0 _ rfl).1 n1 (fun j => .int (VI a j))
  obtain ⟨vm', X', step⟩ := X.arraycopy hx C.2.2.2.2.1 (hts _ (acl_gw _ hm)) (hts _ nat_cpy) (hts _ sta_cpy) (hts _ ini_sys) (src := base + a0) (dst := base + a) (cs := vp_cell (dA 0) (n0, .inl (VI a0))) (cd := vp_cell (dA 0) (n1, .inl (VI a))) (srcPos := sp) (destPos := dp) (n := n) (by rw [hT]; exact hc0) (by rw [hT]; exact hc1)
    (fun _ h => by cases h) (fun _ h => by cases h) (fun h => by cases h) (fun h => by cases h) hk0 hk1 hkk0 hkk1 (by simp [refKind]) k1 k2 k3
    (by rw [clampInt k1, clampInt k3]; show ¬ _ > ((arrV (dA 0) n0 (fun j => .int (VI a0 j))).slots.size : Int); rw [arrV_size]; omega)
    (by rw [clampInt k2, clampInt k3]; show ¬ _ > ((arrV (dA 0) n1 (fun j => .int (VI a j))).slots.size : Int); rw [arrV_size]; omega)
    (fun vm₁ _ i hi => by
      have e : (vp_cell (dA 0) (n0, .inl (VI a0))).slots.getD (sp.toNatClampNeg + i) .null = .int (VI a0 (sp.toNatClampNeg + i)) := by
        show (arrV (dA 0) n0 (fun j => .int (VI a0 j))).slots.getD _ _ = _
        rw [Array.getD_eq_getD_getElem?, arrV_read _ _ (by omega)]
        rfl
      refine ⟨?_, ?_⟩
      · rw [e]; rfl
      · rw [e]; exact trivial)
    (g := F0 m pc lsC (.int n :: .int dp :: .ref (base + a) :: .int sp :: .ref (base + a0) :: st.map (mv base sa))) rfl (hl.1.trans C.2.2.2.1.symm) (rest := st.map (mv base sa)) rfl (by rw [hb]; exact g1) (by omega) (by show 2 * 0 + _ + (nativeFrameWords "java/lang/System" "arraycopy" 5 + 11) ≤ _; exact Nat.le_trans (Nat.add_le_add (Nat.add_le_add_left hs _) (Nat.add_le_add_right hnf 11)) (by omega))
  have e1 : copied (vp_cell (dA 0) (n0, .inl (VI a0))) (vp_cell (dA 0) (n1, .inl (VI a))) sp dp n = vp_cell (dA 0) (n1, .inl (va_cpy (VI a0) (VI a) sp.toNatClampNeg dp.toNatClampNeg n.toNatClampNeg)) := va_copied (fun z => .int z) (dA 0) (dA 0) (VI a0) (VI a) k4
  rw [e1] at X' step
  have hlt : base + a < H.size := (Array.getElem?_eq_some_iff.mp hc1).1
  have oq : ∀ q : Nat, q ≠ base + a → (H.setIfInBounds (base + a) (vp_cell (dA 0) (n1, .inl (va_cpy (VI a0) (VI a) sp.toNatClampNeg dp.toNatClampNeg n.toNatClampNeg))))[q]? = H[q]? := fun q hq => by simp [Array.getElem?_setIfInBounds, Ne.symm hq]
  obtain ⟨t, a1, b1⟩ := kk (H.setIfInBounds (base + a) (vp_cell (dA 0) (n1, .inl (va_cpy (VI a0) (VI a) sp.toNatClampNeg dp.toNatClampNeg n.toNatClampNeg)))) _ cells slots base sa sv D dA lsC C (hH.put hy1 (fun b hb => ⟨uw_ne hb, rfl, rfl⟩) (by simp) oq (by
      show (H.setIfInBounds (base + a) _)[base + a]? = some (vp_cell (dA 0) (n1, .inl (uw VI a _ a)))
      rw [uw_same]
      simp [Array.getElem?_setIfInBounds, hlt])) ⟨by simp; exact hS.1, fun q g1 g2 => by rw [oq q (fun e => g2 (by rw [e]; exact Nat.le_add_right _ _))]; exact hS.2.1 q g1 g2, fun q hq => by
      rcases List.mem_append.mp hq with h | h
      · exact hS.2.2 q h
      · obtain ⟨z, -, hz⟩ := List.mem_map.mp h
        rw [← hz]
        exact Nat.le_add_right _ _⟩ hl h1 h2 _ (by rw [← hT]; rfl) X'
  exact ⟨t, step t a1, b1⟩
end XY
theorem x_max {S : SPr} {d : Nat} {M : MI} {pc nx : Nat} {v : Int32} {w : Int64} {ls st : List Value} {lay : HL} {VI : VIT} {VL : VLT} {VR : VRT} {bc bs i : Nat} {P : Post} (hc : lkp (mC M) pc = some (.invokestatic i, 3, nx, 281, 0, v, w)) (hcat : Nat.ble (st.map (fun v => v.category)).sum 8 = true) {a b : Int32} (k : ExS S d M nx ls (.int (if a < b then b else a) :: st) lay VI VL VR bc bs P) : ExS S d M pc ls (.int b :: .int a :: st) lay VI VL VR bc bs P := by
  intro p l e R s m args below meth c H locs cells slots base sa sv D dA lsC C hH hS hl h1 h2
  obtain ⟨g1, g2, g3⟩ := dec' C.2.2.2.2.2.2.2.2.2.2.2.1 hc
  subst g2
  have hm : (mO M, i, 281, 0) ∈ mls := by
    have g4 := g3
    simp only [insOK, Bool.or_eq_true, Bool.and_eq_true, beq_iff_eq] at g4
    rcases g4 with (⟨-, h0⟩ | ⟨h0, -⟩) | ⟨h0, -⟩
    · exact List.elem_iff.mp h0
    · exact absurd h0 (by decide)
    · exact absurd h0 (by decide)
  have hts := C.2.2.2.2.2.1
  have hfr := C.2.2.2.2.2.2.2.2.2.1
  have hlo := C.2.2.2.2.2.2.2.2.2.2.1
  unfold frs at hfr; unfold lcs at hlo
  have hs : (List.map (fun v => v.category) (List.map (mv base sa) st)).sum ≤ 8 := by simpa [Function.comp_def, mv_cat] using hcat
  have hmw := mil_gw mi281 (List.mem_append_right _ (List.mem_append_right _ (List.mem_append_right _ (List.mem_append_right _ (List.mem_append_right _ (List.mem_append_right _ (List.mem_append_right _ (List.mem_append_right _ (List.mem_append_right _ (List.mem_append_right _ (List.mem_append_right _ (List.mem_append_right _ (List.mem_append_right _ (List.mem_append_right _ (List.mem_of_getElem? (i := 1) rfl)))))))))))))))
  exact va_mmax C.1 C.2.1 (C.2.2.2.1.trans hl.1.symm) C.2.2.2.2.1 (hts _ (mls_gw _ hm)) (hts _ (hmw _ (List.mem_of_getElem? (i := 2) rfl))) (hts _ (hmw _ (List.mem_of_getElem? (i := 1) rfl))) (hts _ (hmw _ (List.mem_of_getElem? (i := 0) rfl))) (by omega) (by omega) (by omega) (by omega) g1 (k p l e R s m args below meth c H locs cells slots base sa sv D dA lsC C hH hS hl h1 h2)
theorem x_min {S : SPr} {d : Nat} {M : MI} {pc nx : Nat} {v : Int32} {w : Int64} {ls st : List Value} {lay : HL} {VI : VIT} {VL : VLT} {VR : VRT} {bc bs i : Nat} {P : Post} (hc : lkp (mC M) pc = some (.invokestatic i, 3, nx, 282, 0, v, w)) (hcat : Nat.ble (st.map (fun v => v.category)).sum 8 = true) {a b : Int32} (k : ExS S d M nx ls (.int (if b < a then b else a) :: st) lay VI VL VR bc bs P) : ExS S d M pc ls (.int b :: .int a :: st) lay VI VL VR bc bs P := by
  intro p l e R s m args below meth c H locs cells slots base sa sv D dA lsC C hH hS hl h1 h2
  obtain ⟨g1, g2, g3⟩ := dec' C.2.2.2.2.2.2.2.2.2.2.2.1 hc
  subst g2
  have hm : (mO M, i, 282, 0) ∈ mls := by
    have g4 := g3
    simp only [insOK, Bool.or_eq_true, Bool.and_eq_true, beq_iff_eq] at g4
    rcases g4 with (⟨-, h0⟩ | ⟨h0, -⟩) | ⟨h0, -⟩
    · exact List.elem_iff.mp h0
    · exact absurd h0 (by decide)
    · exact absurd h0 (by decide)
  have hts := C.2.2.2.2.2.1
  have hfr := C.2.2.2.2.2.2.2.2.2.1
  have hlo := C.2.2.2.2.2.2.2.2.2.2.1
  unfold frs at hfr; unfold lcs at hlo
  have hs : (List.map (fun v => v.category) (List.map (mv base sa) st)).sum ≤ 8 := by simpa [Function.comp_def, mv_cat] using hcat
  have hmw := mil_gw mi282 (List.mem_append_right _ (List.mem_append_right _ (List.mem_append_right _ (List.mem_append_right _ (List.mem_append_right _ (List.mem_append_right _ (List.mem_append_right _ (List.mem_append_right _ (List.mem_append_right _ (List.mem_append_right _ (List.mem_append_right _ (List.mem_append_right _ (List.mem_append_right _ (List.mem_append_right _ (List.mem_of_getElem? (i := 2) rfl)))))))))))))))
  exact va_mmin C.1 C.2.1 (C.2.2.2.1.trans hl.1.symm) C.2.2.2.2.1 (hts _ (mls_gw _ hm)) (hts _ (hmw _ (List.mem_of_getElem? (i := 2) rfl))) (hts _ (hmw _ (List.mem_of_getElem? (i := 1) rfl))) (hts _ (hmw _ (List.mem_of_getElem? (i := 0) rfl))) (by omega) (by omega) (by omega) (by omega) g1 (k p l e R s m args below meth c H locs cells slots base sa sv D dA lsC C hH hS hl h1 h2)
