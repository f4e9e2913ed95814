/-! ===== tokens of both sides ===== -/
def TR (t c v : Nat) : Prop := (c = 0 ∧ (t = 256 ∨ t = 257)) ∨ (∃ w, w < 27 ∧ t = 300 + w ∧ c = wpi w) ∨ (c = 50 ∧ t = 1000 + min v 1000000) ∨ (t < 256 ∧ c = 100 + t)
set_option maxRecDepth 20000 in
theorem wpi_inj : ∀ a, a < 27 → ∀ b, b < 27 → wpi a = wpi b → a = b := by decide +kernel
set_option maxRecDepth 20000 in
theorem wpi_rng : ∀ a, a < 27 → 1 ≤ wpi a ∧ wpi a ≤ 27 := by decide +kernel
set_option maxRecDepth 20000 in
theorem wpi_law : ∀ w, w < 27 → (14 ≤ w ∧ w ≤ 22 ↔ 8 ≤ wpi w ∧ wpi w ≤ 16) ∧ (14 ≤ w → w ≤ 22 → lwm (w - 14) = wpi w) := by decide +kernel
set_option maxRecDepth 20000 in
theorem wpi_kind : ∀ w, w < 27 → (w ≤ 2 ↔ wpi w ≤ 3) ∧ (w ≤ 2 → wpi w = w + 1) := by decide +kernel
section TokS
variable {t c v : Nat}
set_option maxRecDepth 20000 in
theorem TR.word {w : Nat} (h : TR t c v) (hw : w < 27) : t = 300 + w ↔ c = wpi w := by
  have hr := wpi_rng w hw
  rcases h with ⟨h1, h2⟩ | ⟨w', h1, h2, h3⟩ | ⟨h1, h2⟩ | ⟨h1, h2⟩
  · constructor <;> intro z <;> omega
  · refine ⟨fun z => ?_, fun z => ?_⟩
    · rw [h3, show w' = w by omega]
    · have := wpi_inj w' h1 w hw (by omega)
      omega
  · constructor <;> intro z <;> omega
  · constructor <;> intro z <;> omega
set_option maxRecDepth 20000 in
theorem TR.sign {q : Nat} (h : TR t c v) (hq : q < 256) : t = q ↔ c = 100 + q := by
  rcases h with ⟨h1, h2⟩ | ⟨w', h1, h2, h3⟩ | ⟨h1, h2⟩ | ⟨h1, h2⟩
  · constructor <;> intro z <;> omega
  · have hr := wpi_rng w' h1
    constructor <;> intro z <;> omega
  · constructor <;> intro z <;> omega
  · constructor <;> intro z <;> omega
set_option maxRecDepth 20000 in
theorem TR.num (h : TR t c v) : (1000 ≤ t ↔ c = 50) ∧ (c = 50 → t = 1000 + min v 1000000) := by
  rcases h with ⟨h1, h2⟩ | ⟨w', h1, h2, h3⟩ | ⟨h1, h2⟩ | ⟨h1, h2⟩
  · refine ⟨⟨fun z => ?_, fun z => ?_⟩, fun z => ?_⟩ <;> omega
  · have hr := wpi_rng w' h1
    refine ⟨⟨fun z => ?_, fun z => ?_⟩, fun z => ?_⟩ <;> omega
  · refine ⟨⟨fun z => ?_, fun z => ?_⟩, fun z => ?_⟩ <;> omega
  · refine ⟨⟨fun z => ?_, fun z => ?_⟩, fun z => ?_⟩ <;> omega
set_option maxRecDepth 20000 in
theorem TR.law (h : TR t c v) : (314 ≤ t ∧ t ≤ 322 ↔ 8 ≤ c ∧ c ≤ 16) ∧ (314 ≤ t → t ≤ 322 → lwm (t - 314) = c) := by
  rcases h with ⟨h1, h2⟩ | ⟨w', h1, h2, h3⟩ | ⟨h1, h2⟩ | ⟨h1, h2⟩
  · refine ⟨⟨fun z => ?_, fun z => ?_⟩, fun z z2 => ?_⟩ <;> omega
  · have hr := wpi_law w' h1
    refine ⟨⟨fun z => ?_, fun z => ?_⟩, fun z z2 => ?_⟩
    · rw [h3]; exact hr.1.mp (by omega)
    · rw [h3] at z; have := hr.1.mpr z; omega
    · rw [h3, ← hr.2 (by omega) (by omega), show t - 314 = w' - 14 by omega]
  · refine ⟨⟨fun z => ?_, fun z => ?_⟩, fun z z2 => ?_⟩ <;> omega
  · refine ⟨⟨fun z => ?_, fun z => ?_⟩, fun z z2 => ?_⟩ <;> omega
set_option maxRecDepth 20000 in
theorem TR.kind (h : TR t c v) : (300 ≤ t ∧ t ≤ 302 ↔ 1 ≤ c ∧ c ≤ 3) ∧ (1 ≤ c → c ≤ 3 → t = 299 + c) := by
  rcases h with ⟨h1, h2⟩ | ⟨w', h1, h2, h3⟩ | ⟨h1, h2⟩ | ⟨h1, h2⟩
  · refine ⟨⟨fun z => ?_, fun z => ?_⟩, fun z z2 => ?_⟩ <;> omega
  · have hr := wpi_kind w' h1
    have hg := wpi_rng w' h1
    refine ⟨⟨fun z => ?_, fun z => ?_⟩, fun z z2 => ?_⟩
    · have := hr.1.mp (by omega); omega
    · have := hr.1.mpr (by omega); omega
    · have := hr.2 (hr.1.mpr (by omega)); omega
  · refine ⟨⟨fun z => ?_, fun z => ?_⟩, fun z z2 => ?_⟩ <;> omega
  · refine ⟨⟨fun z => ?_, fun z => ?_⟩, fun z z2 => ?_⟩ <;> omega
end TokS
/-! ===== the class reads: its tools ===== -/
def CkA (o : Bool) (N : Nat) (ct tc tv pl : Nat → Nat) (V : VIT) : Prop := (∀ i, i ≤ N → V 41 i = nI (ct i) ∧ V 42 i = nI (pl i) ∧ TR (ct i) (tc i) (tv i) ∧ ct i < 1002000) ∧ V 37 4 = nI (N + 1) ∧ V 37 7 = nI (if o = true then 1 else 0) ∧ N ≤ 400 ∧ (∀ i, N ≤ i → tc i = 0) ∧ ∀ i, tc i < 1000 ∧ tv i < 100000000 ∧ pl i ≤ 400
def FrRC (V0 V : VIT) : Prop := ∀ a k, ¬ (a = 37 ∧ (k = 1 ∨ k = 5 ∨ k = 6)) → ¬ (a = 38 ∧ k = 3) → a ≠ 40 → V a k = V0 a k
set_option maxRecDepth 20000 in
theorem FrRC.refl {V : VIT} : FrRC V V := fun _ _ _ _ _ => rfl
set_option maxRecDepth 20000 in
theorem FrRC.cd {V0 V : VIT} {k : Nat} {x : Int32} (h : FrRC V0 V) : FrRC V0 (up V 40 k x) := fun a j q1 q2 q3 => by rw [up_ne2 (by omega)]; exact h a j q1 q2 q3
set_option maxRecDepth 20000 in
theorem FrRC.put {V0 V : VIT} {l m : Nat} {x y z : Int32} (h : FrRC V0 V) : FrRC V0 (up (up (up V 40 l x) 40 m y) 38 3 z) := fun a j q1 q2 q3 => by rw [up_ne2 (by omega), up_ne2 (by omega), up_ne2 (by omega)]; exact h a j q1 q2 q3
set_option maxRecDepth 20000 in
theorem FrRC.up {V0 V : VIT} {k : Nat} {x : Int32} (h : FrRC V0 V) (hk : k = 1 ∨ k = 5 ∨ k = 6) : FrRC V0 (up V 37 k x) := fun a j q1 q2 q3 => by rw [up_ne2 (by omega)]; exact h a j q1 q2 q3
set_option maxRecDepth 20000 in
theorem CkA.fr {o : Bool} {N : Nat} {ct tc tv pl : Nat → Nat} {V V' : VIT} (h : CkA o N ct tc tv pl V) (hF : FrRC V V') : CkA o N ct tc tv pl V' := by
  obtain ⟨h1, h2, h3, h4⟩ := h
  refine ⟨fun i hi => ?_, by rw [hF 37 4 (by omega) (by omega) (by omega)]; exact h2, by rw [hF 37 7 (by omega) (by omega) (by omega)]; exact h3, h4⟩
  rw [hF 41 i (by omega) (by omega) (by omega), hF 42 i (by omega) (by omega) (by omega)]
  exact h1 i hi
def CS (i p l : Nat) (V : VIT) : Prop := V 37 5 = nI i ∧ V 37 6 = nI p ∧ V 37 1 = -1 ∧ V 38 3 = nI l
set_option maxRecDepth 20000 in
theorem CS.tok {i p l j : Nat} {V : VIT} (h : CS i p l V) : CS j p l (up V 37 5 (nI j)) := ⟨up_at, (up_at' (by omega)).trans h.2.1, (up_at' (by omega)).trans h.2.2.1, (up_ne2 (by omega)).trans h.2.2.2⟩
set_option maxRecDepth 20000 in
theorem CS.part {i p l j : Nat} {V : VIT} (h : CS i p l V) : CS i j l (up V 37 6 (nI j)) := ⟨(up_at' (by omega)).trans h.1, up_at, (up_at' (by omega)).trans h.2.2.1, (up_ne2 (by omega)).trans h.2.2.2⟩
set_option maxRecDepth 20000 in
theorem CS.put {i p l j m : Nat} {x y : Int32} {V : VIT} (h : CS i p l V) : CS i p j (up (up (up V 40 l x) 40 m y) 38 3 (nI j)) := by
  refine ⟨?_, ?_, ?_, up_at⟩
  · rw [up_ne2 (by omega), up_ne2 (by omega), up_ne2 (by omega)]; exact h.1
  · rw [up_ne2 (by omega), up_ne2 (by omega), up_ne2 (by omega)]; exact h.2.1
  · rw [up_ne2 (by omega), up_ne2 (by omega), up_ne2 (by omega)]; exact h.2.2.1
set_option maxRecDepth 20000 in
theorem CS.land {i p l m : Nat} {x : Int32} {V : VIT} (h : CS i p l V) : CS i p l (up V 40 m x) := by
  refine ⟨?_, ?_, ?_, ?_⟩
  · rw [up_ne2 (by omega)]; exact h.1
  · rw [up_ne2 (by omega)]; exact h.2.1
  · rw [up_ne2 (by omega)]; exact h.2.2.1
  · rw [up_ne2 (by omega)]; exact h.2.2.2
section PutS
variable {V : VIT} {l k : Nat} {x y z : Int32}
set_option maxRecDepth 20000 in
theorem put_lt (h : k < l) : (up (up (up V 40 l x) 40 (l + 1) y) 38 3 z) 40 k = V 40 k := by rw [up_ne2 (by omega), up_ne2 (by omega), up_ne2 (by omega)]
set_option maxRecDepth 20000 in
theorem put_0 : (up (up (up V 40 l x) 40 (l + 1) y) 38 3 z) 40 l = x := by rw [up_ne2 (by omega), up_ne2 (by omega), up_at]
set_option maxRecDepth 20000 in
theorem put_1 : (up (up (up V 40 l x) 40 (l + 1) y) 38 3 z) 40 (l + 1) = y := by rw [up_ne2 (by omega), up_at]
set_option maxRecDepth 20000 in
theorem SegC.put {nw h a b : Nat} {wm : Nat → Nat} {d : Den} (hs : SegC nw h wm V a b d) (hb : b ≤ l) : SegC nw h wm (up (up (up V 40 l x) 40 (l + 1) y) 38 3 z) a b d := hs.same (fun k _ q => put_lt (by omega))
end PutS
section Read6
variable {d : Nat} {V0 V : VIT} {VL : VLT} {G : VRT} {P : Post} {ext : HL} {o : Bool} {N i p l c : Nat} {ct tc tv pl : Nat → Nat}
set_option maxRecDepth 20000 in
theorem x_token (hA : CkA o N ct tc tv pl V) (h5 : V 37 5 = nI i) (hi : i ≤ N) (hP : P (some (.int (nI (ct i)))) (LY ++ ext) V VL (vr G)) : Ex d mi48 0 (entL [.ref 37] 1) [] (LY ++ ext) V VL (vr G) 0 0 P := by
  have hN := hA.2.2.2.1
  refine x_aload_n rfl rfl ?_
  refine x_getE (y := 5) rfl rfl rfl h5 ?_
  refine x_aload_n rfl rfl ?_
  refine x_getE (y := 4) rfl rfl rfl hA.2.1 ?_
  refine x_icmpN_ge rfl (fun c8 => ?_) (fun c8 => ?_)
  · exact absurd c8 (by first | decide | omega)
  refine x_aload_n rfl rfl ?_
  refine x_getR (u := .ref _) rfl rfl rfl rfl ?_
  refine x_aload_n rfl rfl ?_
  refine x_getE (y := 5) rfl rfl rfl h5 ?_
  refine x_ialE (j := i) rfl rfl (rfl) (by omega) ((hA.1 i hi).1) ?_
  refine x_goto rfl ?_
  refine x_iret rfl rfl ?_
  exact hP
set_option maxRecDepth 20000 in
theorem x_wrong (hA : CkA o N ct tc tv pl V) (h5 : V 37 5 = nI i) (hi : i ≤ N) (hP : P (some (.int (nI 0))) (LY ++ ext) (up V 37 1 (nI (pl i))) VL (vr G)) : Ex d mi49 0 (entL [.ref 37] 1) [] (LY ++ ext) V VL (vr G) 0 0 P := by
  have hN := hA.2.2.2.1
  refine x_aload_n rfl rfl ?_
  refine x_aload_n rfl rfl ?_
  refine x_getE (y := 5) rfl rfl rfl h5 ?_
  refine x_aload_n rfl rfl ?_
  refine x_getE (y := 4) rfl rfl rfl hA.2.1 ?_
  refine x_icmpN_ge rfl (fun c9 => ?_) (fun c9 => ?_)
  · exact absurd c9 (by first | decide | omega)
  refine x_aload_n rfl rfl ?_
  refine x_getR (u := .ref _) rfl rfl rfl rfl ?_
  refine x_aload_n rfl rfl ?_
  refine x_getE (y := 5) rfl rfl rfl h5 ?_
  refine x_ialE (j := i) rfl rfl (rfl) (by omega) ((hA.1 i hi).2.1) ?_
  refine x_goto rfl ?_
  refine x_putI rfl rfl rfl rfl ?_
  refine x_iconstN (q := 0) rfl ?_
  refine x_zret rfl rfl (by first | exact Or.inl rfl | exact Or.inr rfl) ?_
  exact hP
set_option maxRecDepth 20000 in
theorem x_passed1 (hA : CkA o N ct tc tv pl V) (h5 : V 37 5 = nI i) (hi : i ≤ N) (h : ct i = c) (hP : P (some (.int (nI 1))) (LY ++ ext) (up V 37 5 (nI (i + 1))) VL (vr G)) : Ex (d + 1) mi50 0 (entL [.ref 37, .int (nI c)] 2) [] (LY ++ ext) V VL (vr G) 0 0 P := by
  have hN := hA.2.2.2.1
  have hc := (hA.1 i hi).2.2.2
  refine x_aload_n rfl rfl ?_
  refine x_callV (M' := mi48) (As := []) (bc1 := 0) (bs1 := 0) (bc2 := 0) (bs2 := 0) rfl rfl rfl rfl ok48 rfl rfl (by decide) rfl rfl rfl rfl rfl rfl ?_
  refine x_token hA h5 hi ?_
  refine x_iload_n rfl rfl ?_
  refine x_icmpN_eq rfl (fun c5 => ?_) (fun c5 => ?_)
  rotate_left
  · exact absurd c5 (by first | decide | omega)
  refine x_aload_n rfl rfl ?_
  refine x_dup rfl rfl ?_
  refine x_getE (y := 5) rfl rfl rfl h5 ?_
  refine x_iconstN (q := 1) rfl ?_
  refine x_iaddN rfl ?_
  refine x_putI rfl rfl rfl rfl ?_
  refine x_iconstN (q := 1) rfl ?_
  refine x_zret rfl rfl (by first | exact Or.inl rfl | exact Or.inr rfl) ?_
  exact hP
set_option maxRecDepth 20000 in
theorem x_passedN (hA : CkA o N ct tc tv pl V) (h5 : V 37 5 = nI i) (hi : i ≤ N) (hc9 : c < 1000) (h : ct i ≠ c) (hP : P (some (.int (nI 0))) (LY ++ ext) (up V 37 1 (nI (pl i))) VL (vr G)) : Ex (d + 1) mi50 0 (entL [.ref 37, .int (nI c)] 2) [] (LY ++ ext) V VL (vr G) 0 0 P := by
  have hN := hA.2.2.2.1
  have hc := (hA.1 i hi).2.2.2
  refine x_aload_n rfl rfl ?_
  refine x_callV (M' := mi48) (As := []) (bc1 := 0) (bs1 := 0) (bc2 := 0) (bs2 := 0) rfl rfl rfl rfl ok48 rfl rfl (by decide) rfl rfl rfl rfl rfl rfl ?_
  refine x_token hA h5 hi ?_
  refine x_iload_n rfl rfl ?_
  refine x_icmpN_eq rfl (fun c5 => ?_) (fun c5 => ?_)
  · exact absurd c5 (by first | decide | omega)
  refine x_aload_n rfl rfl ?_
  refine x_callV (M' := mi49) (As := []) (bc1 := 0) (bs1 := 0) (bc2 := 0) (bs2 := 0) rfl rfl rfl rfl ok49 rfl rfl (by decide) rfl rfl rfl rfl rfl rfl ?_
  refine x_wrong hA h5 hi ?_
  refine x_zret rfl rfl (by first | exact Or.inl rfl | exact Or.inr rfl) ?_
  exact hP
set_option maxRecDepth 20000 in
theorem x_putC {op v : Nat} (h3 : V 38 3 = nI l) (hl : l + 1 < 896) (hP : P (some (.int (nI l))) (LY ++ ext) (up (up (up V 40 l (nI op)) 40 (l + 1) (nI v)) 38 3 (nI (l + 2))) VL (vr G)) : Ex d mi86 0 (entL [.ref 38, .int (nI op), .int (nI v)] 3) [] (LY ++ ext) V VL (vr G) 0 0 P := by
  refine x_aload_n rfl rfl ?_
  refine x_getE (y := 3) rfl rfl rfl h3 ?_
  refine x_iconstN (q := 1) rfl ?_
  refine x_iaddN rfl ?_
  refine x_aload_n rfl rfl ?_
  refine x_getR (u := .ref _) rfl rfl rfl rfl ?_
  refine x_alen0 rfl rfl ?_
  refine x_icmpN_ge rfl (fun c11 => ?_) (fun c11 => ?_)
  · exact absurd c11 (by first | decide | omega)
  refine x_aload_n rfl rfl ?_
  refine x_getR (u := .ref _) rfl rfl rfl rfl ?_
  refine x_aload_n rfl rfl ?_
  refine x_getE (y := 3) rfl rfl rfl h3 ?_
  refine x_iload_n rfl rfl ?_
  refine x_iasN (j := l) rfl rfl (rfl) (by omega) ?_
  refine x_aload_n rfl rfl ?_
  refine x_getR (u := .ref _) rfl rfl rfl rfl ?_
  refine x_aload_n rfl rfl ?_
  refine x_getE (y := 3) rfl rfl rfl ((up_ne2 (by omega)).trans h3) ?_
  refine x_iconstN (q := 1) rfl ?_
  refine x_iaddN rfl ?_
  refine x_iload_n rfl rfl ?_
  refine x_iasN (j := l + 1) rfl rfl (rfl) (by omega) ?_
  refine x_aload_n rfl rfl ?_
  refine x_dup rfl rfl ?_
  refine x_getE (y := 3) rfl rfl rfl ((up_ne2 (by omega)).trans ((up_ne2 (by omega)).trans h3)) ?_
  refine x_iconstN (q := 2) rfl ?_
  refine x_iaddN rfl ?_
  refine x_putI rfl rfl rfl rfl ?_
  refine x_aload_n rfl rfl ?_
  refine x_getE (y := 3) rfl rfl rfl up_at ?_
  refine x_iconstN (q := 2) rfl ?_
  refine x_isubN rfl ?_
  refine x_iret rfl rfl ?_
  rw [show l + 2 - 2 = l by omega]
  exact hP
set_option maxRecDepth 20000 in
theorem x_land {j : Nat} (h3 : V 38 3 = nI l) (hj : j + 1 < l) (hl : l ≤ 896) (hP : P none (LY ++ ext) (up V 40 (j + 1) (nI l)) VL (vr G)) : Ex d mi87 0 (entL [.ref 38, .int (nI j)] 2) [] (LY ++ ext) V VL (vr G) 0 0 P := by
  refine x_iload_n rfl rfl ?_
  refine x_ifN_lt rfl ?_
  refine x_iload_n rfl rfl ?_
  refine x_iconstN (q := 1) rfl ?_
  refine x_iaddN rfl ?_
  refine x_aload_n rfl rfl ?_
  refine x_getE (y := 3) rfl rfl rfl h3 ?_
  refine x_icmpN_ge rfl (fun c11 => ?_) (fun c11 => ?_)
  · exact absurd c11 (by first | decide | omega)
  refine x_aload_n rfl rfl ?_
  refine x_getR (u := .ref _) rfl rfl rfl rfl ?_
  refine x_iload_n rfl rfl ?_
  refine x_iconstN (q := 1) rfl ?_
  refine x_iaddN rfl ?_
  refine x_aload_n rfl rfl ?_
  refine x_getE (y := 3) rfl rfl rfl h3 ?_
  refine x_iasN (j := j + 1) rfl rfl (rfl) (by omega) ?_
  refine x_vret rfl rfl ?_
  exact hP
end Read6
