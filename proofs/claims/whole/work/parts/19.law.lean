/-! ===== the law ===== -/
theorem W_conseq {p : Program} {l : Launch} {e : Env} {R : Room} {s : State} {m : MethodId} {args : Array Value} {below : List Frame} {meth : Method} {c : Code} {H : Heap} {locs : List Loc} {cells slots : Nat} {Q Q' : State → Prop} {g : JFrame} (k : W p l e R s m args below meth c H locs cells slots Q g) (h : ∀ t, Q t → Q' t) : W p l e R s m args below meth c H locs cells slots Q' g := by
  intro T hT X
  obtain ⟨t, a, b⟩ := k T hT X
  exact ⟨t, a, h t b⟩
section Cons
variable {S : SPr} {d : Nat} {M : MI} {pc : Nat} {ls st : List Value} {lay : HL} {VI : VIT} {VL : VLT} {VR : VRT} {bc bs bc' bs' : Nat} {P P' : Post}
theorem ExS.conseq (k : ExS S d M pc ls st lay VI VL VR bc bs P) (h : ∀ r lay' VI' VL' VR', P r lay' VI' VL' VR' → P' r lay' VI' VL' VR') : ExS S d M pc ls st lay VI VL VR bc bs P' := by
  intro p l e R s m args below meth c H locs cells slots base sa sv D dA lsC C hH hS hl h1 h2
  refine W_conseq (k p l e R s m args below meth c H locs cells slots base sa sv D dA lsC C hH hS hl h1 h2) ?_
  rintro t ⟨o, q1, q2, ⟨⟨v, lay', VI', VL', VR', e1, e2, e3⟩, q3⟩, q4⟩
  exact ⟨o, q1, q2, ⟨⟨v, lay', VI', VL', VR', e1, h _ _ _ _ _ e2, e3⟩, q3⟩, q4⟩
theorem ExS.budget (k : ExS S d M pc ls st lay VI VL VR bc bs P) (h1 : bc ≤ bc') (h2 : bs ≤ bs') : ExS S d M pc ls st lay VI VL VR bc' bs' P := by
  intro p l e R s m args below meth c H locs cells slots base sa sv D dA lsC C hH hS hl g1 g2
  exact k p l e R s m args below meth c H locs cells slots base sa sv D dA lsC C hH hS hl (by omega) (by omega)
/-- the references may be told otherwise where nobody looks -/
def refsIn (lay : HL) (VR VR' : VRT) : Prop := ∀ (a : Nat) (x : (Nat × Nat) ⊕ Nat), lay[a]? = some x → match x with
  | .inr ci => ∀ k, k < cnf ci → VR' a k = VR a k
  | .inl q => (q.1 = 4 ∨ q.1 = 5) → ∀ k, k < q.2 → VR' a k = VR a k
theorem HR_refs {base : Nat} {sa : SA} {dA : Nat → ClassId} {D : va_G} {VR' : VRT} {H : Heap} (h : refsIn lay VR VR') (hH : HR base sa dA D lay VI VL VR H) : HR base sa dA D lay VI VL VR' H := by
  refine ⟨hH.1, fun a q hq => ?_⟩
  obtain ⟨x, hx, rfl⟩ := wsC_inv hq
  have h0 := hH.2 a _ (wsC_at hx)
  have h1 := h a x hx
  cases x with
  | inr ci =>
    have e : fsC base sa VI VL VR' a ci = fsC base sa VI VL VR a ci := by
      unfold fsC
      refine List.map_congr_left fun k hk => ?_
      rw [fv_cong rfl rfl (h1 k (List.mem_range.mp hk))]
    show va_at D cls (base + a, .inr (ci, fsC base sa VI VL VR' a ci)) H
    rw [e]
    exact h0
  | inl q =>
    obtain ⟨t, n⟩ := q
    have h2 : va_at D cls (base + a, .inl (dA t, n, aC base VI VL VR a t)) H := h0
    show H[base + a]? = some (vp_cell (dA t) (n, aC base VI VL VR' a t))
    have h3 : H[base + a]? = some (vp_cell (dA t) (n, aC base VI VL VR a t)) := h2
    rw [h3]
    have key : t = 4 ∨ t = 5 → vp_cell (dA t) (n, .inr (.inr (.inr (.inr (fun j => rfo base (VR a j)))))) = vp_cell (dA t) (n, .inr (.inr (.inr (.inr (fun j => rfo base (VR' a j)))))) := by
      intro ht
      have h4 : ∀ k, k < n → VR' a k = VR a k := h1 ht
      rw [vp_cell_q, vp_cell_q]
      unfold arrV
      congr 1
      apply Array.ext
      · simp
      · intro i hi1 hi2
        simp only [Array.getElem_ofFn]
        rw [h4 i (by simpa using hi1)]
    match t, key with
    | 4, key => exact congrArg some (key (Or.inl rfl))
    | 5, key => exact congrArg some (key (Or.inr rfl))
    | 0, _ => rfl
    | 1, _ => rfl
    | 2, _ => rfl
    | 3, _ => rfl
    | t + 6, _ => rfl
theorem ExS.refs {VR' : VRT} (h : refsIn lay VR VR') (k : ExS S d M pc ls st lay VI VL VR' bc bs P) : ExS S d M pc ls st lay VI VL VR bc bs P := by
  intro p l e R s m args below meth c H locs cells slots base sa sv D dA lsC C hH hS hl g1 g2
  exact k p l e R s m args below meth c H locs cells slots base sa sv D dA lsC C (HR_refs h hH) hS hl g1 g2
end Cons
/-- one call on both sides: the same answer, then I -/
def Pr (D : Nat) (xm mm : MI) (As : List Value) (lay : HL) (VI : VIT) (VL : VLT) (VR : VRT) (I : HL → VIT → VLT → VRT → Prop) : Prop :=
  Ex D xm 0 (entL (.ref 0 :: As) (mL xm)) [] lay VI VL VR 3 1000 (fun r lay1 VI1 VL1 VR1 => ∃ (a : Int32) (ext : HL), r = some (.int a) ∧ lay1 = LY ++ ext ∧
    Ex D mm 0 (entL (.ref 74 :: As) (mL mm)) [] lay1 VI1 VL1 VR1 0 0 (fun r2 lay2 VI2 VL2 VR2 => r2 = some (.int a) ∧ I lay2 VI2 VL2 VR2))
def xml : List MI := [mi109, mi110, mi111, mi112, mi113, mi114, mi115, mi116, mi117, mi118, mi119, mi120, mi121, mi122, mi123, mi124, mi125, mi126, mi127, mi128, mi129, mi130, mi131, mi132, mi133, mi134, mi135, mi136, mi137, mi138, mi139, mi140, mi141, mi142, mi143, mi144]
def mml : List MI := [mi173, mi174, mi175, mi183, mi185, mi188, mi189, mi186, mi187, mi213, mi269, mi214, mi268, mi215, mi231, mi244, mi245, mi246, mi247, mi236, mi251, mi252, mi253, mi257, mi258, mi259, mi262, mi263, mi264, mi267, mi275, mi276, mi162, mi163, mi278, mi279]
def npl : List Nat := [3, 2, 2, 2, 2, 5, 1, 0, 0, 0, 0, 0, 0, 1, 4, 3, 1, 1, 0, 0, 2, 1, 2, 1, 3, 0, 3, 2, 2, 2, 2, 2, 1, 1, 1, 0]
/-- the c-th call, with the first of the five numbers -/
def Call (D c : Nat) (a : List Int32) (lay : HL) (VI : VIT) (VL : VLT) (VR : VRT) (I : HL → VIT → VLT → VRT → Prop) : Prop := Pr D (xml.getD c mi109) (mml.getD c mi109) ((a.take (npl.getD c 0)).map Value.int) lay VI VL VR I
abbrev one : Post := fun r _ _ _ _ => r = some (.int 1)
section Law
variable {L : Nat} {xs : Nat → Int32} {D : Nat}
set_option maxRecDepth 20000 in
theorem law_end {j m bs : Nat} {lay : HL} {VI : VIT} {VL : VLT} {VR : VRT} (hL : L ≤ 3072) (hj : L < 6 * j + 6) (hj2 : j ≤ 512) : ExS (Scr L xs) (D + 1) mi999 18 [.float 0, .ref 0, .ref 74, .int (nI (6 * j))] [] lay VI VL VR m bs one := by
  have h24 : nI L - 6 < nI (6 * j) := by
    rw [Int32.lt_iff_toInt_lt, nI_toInt (by omega), show (nI L - 6 : Int32) = nI L - nI 6 from rfl, pk_sub_toInt (by omega) (by omega)]
    omega
  refine x_iload_n rfl rfl ?_
  refine x_aload_nF0 rfl rfl ?_
  refine x_slen rfl ?_
  refine x_bipush rfl ?_
  refine x_isub rfl ?_
  refine x_icmp_gt rfl (fun c24 => ?_) (fun c24 => ?_)
  rotate_left
  · exact absurd h24 c24
  refine x_iconst rfl ?_
  refine x_zret rfl rfl (by first | exact Or.inl rfl | exact Or.inr rfl) ?_
  rfl
set_option maxRecDepth 20000 in
theorem law_0 {j m : Nat} {ext : HL} {VI : VIT} {VL : VLT} {VR : VRT} {I : HL → VIT → VLT → VRT → Prop} (hL : L ≤ 3072) (hj : 6 * j + 6 ≤ L) (h : Call D 0 [xs (6 * j + 1), xs (6 * j + 2), xs (6 * j + 3), xs (6 * j + 4), xs (6 * j + 5)] (LY ++ ext) VI VL VR I) (ih : ∀ lay VI VL VR, I lay VI VL VR → ExS (Scr L xs) (D + 1) mi999 18 [.float 0, .ref 0, .ref 74, .int (nI (6 * (j + 1)))] [] lay VI VL VR (3 * m) (1000 * m) one) : ExS (Scr L xs) (D + 1) mi999 192 [.float 0, .ref 0, .ref 74, .int (nI (6 * j))] [] (LY ++ ext) VI VL VR (3 * (m + 1)) (1000 * (m + 1)) one := by
  refine x_aload_n rfl rfl ?_
  refine x_aload_nF0 rfl rfl ?_
  refine x_iload_n rfl rfl ?_
  refine x_iconstN (q := 1) rfl ?_
  refine x_iaddN rfl ?_
  refine x_sld (j := 6 * j + 1) rfl (rfl) (by omega) (by omega) ?_
  refine x_aload_nF0 rfl rfl ?_
  refine x_iload_n rfl rfl ?_
  refine x_iconstN (q := 2) rfl ?_
  refine x_iaddN rfl ?_
  refine x_sld (j := 6 * j + 2) rfl (rfl) (by omega) (by omega) ?_
  refine x_aload_nF0 rfl rfl ?_
  refine x_iload_n rfl rfl ?_
  refine x_iconstN (q := 3) rfl ?_
  refine x_iaddN rfl ?_
  refine x_sld (j := 6 * j + 3) rfl (rfl) (by omega) (by omega) ?_
  refine x_callV (M' := mi109) (As := [_, _, _]) (bc1 := 3) (bs1 := 1000) (bc2 := 3 * m) (bs2 := 1000 * m) rfl rfl rfl rfl ok109 rfl rfl (by decide) rfl rfl rfl rfl (by omega) (by omega) ?_
  refine h.conseq (fun r lay1 VI1 VL1 VR1 hh => ?_)
  obtain ⟨a, ext1, rfl, rfl, h2⟩ := hh
  refine x_aload_n rfl rfl ?_
  refine x_aload_nF0 rfl rfl ?_
  refine x_iload_n rfl rfl ?_
  refine x_iconstN (q := 1) rfl ?_
  refine x_iaddN rfl ?_
  refine x_sld (j := 6 * j + 1) rfl (rfl) (by omega) (by omega) ?_
  refine x_aload_nF0 rfl rfl ?_
  refine x_iload_n rfl rfl ?_
  refine x_iconstN (q := 2) rfl ?_
  refine x_iaddN rfl ?_
  refine x_sld (j := 6 * j + 2) rfl (rfl) (by omega) (by omega) ?_
  refine x_aload_nF0 rfl rfl ?_
  refine x_iload_n rfl rfl ?_
  refine x_iconstN (q := 3) rfl ?_
  refine x_iaddN rfl ?_
  refine x_sld (j := 6 * j + 3) rfl (rfl) (by omega) (by omega) ?_
  refine x_callV (M' := mi173) (As := [_, _, _]) (bc1 := 0) (bs1 := 0) (bc2 := 3 * m) (bs2 := 1000 * m) rfl rfl rfl rfl ok173 rfl rfl (by decide) rfl rfl rfl rfl (by omega) (by omega) ?_
  refine h2.conseq (fun r2 lay2 VI2 VL2 VR2 hh => ?_)
  obtain ⟨rfl, hI⟩ := hh
  refine x_icmp_eq rfl (fun c230 => ?_) (fun c230 => ?_)
  rotate_left
  · exact absurd rfl c230
  refine x_iincN (q := 6) (ls' := [_, _, _, _]) rfl rfl rfl rfl ?_
  refine x_goto rfl ?_
  exact ih _ _ _ _ hI
set_option maxRecDepth 20000 in
theorem law_1 {j m : Nat} {ext : HL} {VI : VIT} {VL : VLT} {VR : VRT} {I : HL → VIT → VLT → VRT → Prop} (hL : L ≤ 3072) (hj : 6 * j + 6 ≤ L) (h : Call D 1 [xs (6 * j + 1), xs (6 * j + 2), xs (6 * j + 3), xs (6 * j + 4), xs (6 * j + 5)] (LY ++ ext) VI VL VR I) (ih : ∀ lay VI VL VR, I lay VI VL VR → ExS (Scr L xs) (D + 1) mi999 18 [.float 0, .ref 0, .ref 74, .int (nI (6 * (j + 1)))] [] lay VI VL VR (3 * m) (1000 * m) one) : ExS (Scr L xs) (D + 1) mi999 235 [.float 0, .ref 0, .ref 74, .int (nI (6 * j))] [] (LY ++ ext) VI VL VR (3 * (m + 1)) (1000 * (m + 1)) one := by
  refine x_aload_n rfl rfl ?_
  refine x_aload_nF0 rfl rfl ?_
  refine x_iload_n rfl rfl ?_
  refine x_iconstN (q := 1) rfl ?_
  refine x_iaddN rfl ?_
  refine x_sld (j := 6 * j + 1) rfl (rfl) (by omega) (by omega) ?_
  refine x_aload_nF0 rfl rfl ?_
  refine x_iload_n rfl rfl ?_
  refine x_iconstN (q := 2) rfl ?_
  refine x_iaddN rfl ?_
  refine x_sld (j := 6 * j + 2) rfl (rfl) (by omega) (by omega) ?_
  refine x_callV (M' := mi110) (As := [_, _]) (bc1 := 3) (bs1 := 1000) (bc2 := 3 * m) (bs2 := 1000 * m) rfl rfl rfl rfl ok110 rfl rfl (by decide) rfl rfl rfl rfl (by omega) (by omega) ?_
  refine h.conseq (fun r lay1 VI1 VL1 VR1 hh => ?_)
  obtain ⟨a, ext1, rfl, rfl, h2⟩ := hh
  refine x_aload_n rfl rfl ?_
  refine x_aload_nF0 rfl rfl ?_
  refine x_iload_n rfl rfl ?_
  refine x_iconstN (q := 1) rfl ?_
  refine x_iaddN rfl ?_
  refine x_sld (j := 6 * j + 1) rfl (rfl) (by omega) (by omega) ?_
  refine x_aload_nF0 rfl rfl ?_
  refine x_iload_n rfl rfl ?_
  refine x_iconstN (q := 2) rfl ?_
  refine x_iaddN rfl ?_
  refine x_sld (j := 6 * j + 2) rfl (rfl) (by omega) (by omega) ?_
  refine x_callV (M' := mi174) (As := [_, _]) (bc1 := 0) (bs1 := 0) (bc2 := 3 * m) (bs2 := 1000 * m) rfl rfl rfl rfl ok174 rfl rfl (by decide) rfl rfl rfl rfl (by omega) (by omega) ?_
  refine h2.conseq (fun r2 lay2 VI2 VL2 VR2 hh => ?_)
  obtain ⟨rfl, hI⟩ := hh
  refine x_icmp_eq rfl (fun c263 => ?_) (fun c263 => ?_)
  rotate_left
  · exact absurd rfl c263
  refine x_iincN (q := 6) (ls' := [_, _, _, _]) rfl rfl rfl rfl ?_
  refine x_goto rfl ?_
  exact ih _ _ _ _ hI
set_option maxRecDepth 20000 in
theorem law_2 {j m : Nat} {ext : HL} {VI : VIT} {VL : VLT} {VR : VRT} {I : HL → VIT → VLT → VRT → Prop} (hL : L ≤ 3072) (hj : 6 * j + 6 ≤ L) (h : Call D 2 [xs (6 * j + 1), xs (6 * j + 2), xs (6 * j + 3), xs (6 * j + 4), xs (6 * j + 5)] (LY ++ ext) VI VL VR I) (ih : ∀ lay VI VL VR, I lay VI VL VR → ExS (Scr L xs) (D + 1) mi999 18 [.float 0, .ref 0, .ref 74, .int (nI (6 * (j + 1)))] [] lay VI VL VR (3 * m) (1000 * m) one) : ExS (Scr L xs) (D + 1) mi999 268 [.float 0, .ref 0, .ref 74, .int (nI (6 * j))] [] (LY ++ ext) VI VL VR (3 * (m + 1)) (1000 * (m + 1)) one := by
  refine x_aload_n rfl rfl ?_
  refine x_aload_nF0 rfl rfl ?_
  refine x_iload_n rfl rfl ?_
  refine x_iconstN (q := 1) rfl ?_
  refine x_iaddN rfl ?_
  refine x_sld (j := 6 * j + 1) rfl (rfl) (by omega) (by omega) ?_
  refine x_aload_nF0 rfl rfl ?_
  refine x_iload_n rfl rfl ?_
  refine x_iconstN (q := 2) rfl ?_
  refine x_iaddN rfl ?_
  refine x_sld (j := 6 * j + 2) rfl (rfl) (by omega) (by omega) ?_
  refine x_callV (M' := mi111) (As := [_, _]) (bc1 := 3) (bs1 := 1000) (bc2 := 3 * m) (bs2 := 1000 * m) rfl rfl rfl rfl ok111 rfl rfl (by decide) rfl rfl rfl rfl (by omega) (by omega) ?_
  refine h.conseq (fun r lay1 VI1 VL1 VR1 hh => ?_)
  obtain ⟨a, ext1, rfl, rfl, h2⟩ := hh
  refine x_aload_n rfl rfl ?_
  refine x_aload_nF0 rfl rfl ?_
  refine x_iload_n rfl rfl ?_
  refine x_iconstN (q := 1) rfl ?_
  refine x_iaddN rfl ?_
  refine x_sld (j := 6 * j + 1) rfl (rfl) (by omega) (by omega) ?_
  refine x_aload_nF0 rfl rfl ?_
  refine x_iload_n rfl rfl ?_
  refine x_iconstN (q := 2) rfl ?_
  refine x_iaddN rfl ?_
  refine x_sld (j := 6 * j + 2) rfl (rfl) (by omega) (by omega) ?_
  refine x_callV (M' := mi175) (As := [_, _]) (bc1 := 0) (bs1 := 0) (bc2 := 3 * m) (bs2 := 1000 * m) rfl rfl rfl rfl ok175 rfl rfl (by decide) rfl rfl rfl rfl (by omega) (by omega) ?_
  refine h2.conseq (fun r2 lay2 VI2 VL2 VR2 hh => ?_)
  obtain ⟨rfl, hI⟩ := hh
  refine x_icmp_eq rfl (fun c296 => ?_) (fun c296 => ?_)
  rotate_left
  · exact absurd rfl c296
  refine x_iincN (q := 6) (ls' := [_, _, _, _]) rfl rfl rfl rfl ?_
  refine x_goto rfl ?_
  exact ih _ _ _ _ hI
set_option maxRecDepth 20000 in
theorem law_3 {j m : Nat} {ext : HL} {VI : VIT} {VL : VLT} {VR : VRT} {I : HL → VIT → VLT → VRT → Prop} (hL : L ≤ 3072) (hj : 6 * j + 6 ≤ L) (h : Call D 3 [xs (6 * j + 1), xs (6 * j + 2), xs (6 * j + 3), xs (6 * j + 4), xs (6 * j + 5)] (LY ++ ext) VI VL VR I) (ih : ∀ lay VI VL VR, I lay VI VL VR → ExS (Scr L xs) (D + 1) mi999 18 [.float 0, .ref 0, .ref 74, .int (nI (6 * (j + 1)))] [] lay VI VL VR (3 * m) (1000 * m) one) : ExS (Scr L xs) (D + 1) mi999 301 [.float 0, .ref 0, .ref 74, .int (nI (6 * j))] [] (LY ++ ext) VI VL VR (3 * (m + 1)) (1000 * (m + 1)) one := by
  refine x_aload_n rfl rfl ?_
  refine x_aload_nF0 rfl rfl ?_
  refine x_iload_n rfl rfl ?_
  refine x_iconstN (q := 1) rfl ?_
  refine x_iaddN rfl ?_
  refine x_sld (j := 6 * j + 1) rfl (rfl) (by omega) (by omega) ?_
  refine x_aload_nF0 rfl rfl ?_
  refine x_iload_n rfl rfl ?_
  refine x_iconstN (q := 2) rfl ?_
  refine x_iaddN rfl ?_
  refine x_sld (j := 6 * j + 2) rfl (rfl) (by omega) (by omega) ?_
  refine x_callV (M' := mi112) (As := [_, _]) (bc1 := 3) (bs1 := 1000) (bc2 := 3 * m) (bs2 := 1000 * m) rfl rfl rfl rfl ok112 rfl rfl (by decide) rfl rfl rfl rfl (by omega) (by omega) ?_
  refine h.conseq (fun r lay1 VI1 VL1 VR1 hh => ?_)
  obtain ⟨a, ext1, rfl, rfl, h2⟩ := hh
  refine x_aload_n rfl rfl ?_
  refine x_aload_nF0 rfl rfl ?_
  refine x_iload_n rfl rfl ?_
  refine x_iconstN (q := 1) rfl ?_
  refine x_iaddN rfl ?_
  refine x_sld (j := 6 * j + 1) rfl (rfl) (by omega) (by omega) ?_
  refine x_aload_nF0 rfl rfl ?_
  refine x_iload_n rfl rfl ?_
  refine x_iconstN (q := 2) rfl ?_
  refine x_iaddN rfl ?_
  refine x_sld (j := 6 * j + 2) rfl (rfl) (by omega) (by omega) ?_
  refine x_callV (M' := mi183) (As := [_, _]) (bc1 := 0) (bs1 := 0) (bc2 := 3 * m) (bs2 := 1000 * m) rfl rfl rfl rfl ok183 rfl rfl (by decide) rfl rfl rfl rfl (by omega) (by omega) ?_
  refine h2.conseq (fun r2 lay2 VI2 VL2 VR2 hh => ?_)
  obtain ⟨rfl, hI⟩ := hh
  refine x_icmp_eq rfl (fun c329 => ?_) (fun c329 => ?_)
  rotate_left
  · exact absurd rfl c329
  refine x_iincN (q := 6) (ls' := [_, _, _, _]) rfl rfl rfl rfl ?_
  refine x_goto rfl ?_
  exact ih _ _ _ _ hI
set_option maxRecDepth 20000 in
theorem law_4 {j m : Nat} {ext : HL} {VI : VIT} {VL : VLT} {VR : VRT} {I : HL → VIT → VLT → VRT → Prop} (hL : L ≤ 3072) (hj : 6 * j + 6 ≤ L) (h : Call D 4 [xs (6 * j + 1), xs (6 * j + 2), xs (6 * j + 3), xs (6 * j + 4), xs (6 * j + 5)] (LY ++ ext) VI VL VR I) (ih : ∀ lay VI VL VR, I lay VI VL VR → ExS (Scr L xs) (D + 1) mi999 18 [.float 0, .ref 0, .ref 74, .int (nI (6 * (j + 1)))] [] lay VI VL VR (3 * m) (1000 * m) one) : ExS (Scr L xs) (D + 1) mi999 334 [.float 0, .ref 0, .ref 74, .int (nI (6 * j))] [] (LY ++ ext) VI VL VR (3 * (m + 1)) (1000 * (m + 1)) one := by
  refine x_aload_n rfl rfl ?_
  refine x_aload_nF0 rfl rfl ?_
  refine x_iload_n rfl rfl ?_
  refine x_iconstN (q := 1) rfl ?_
  refine x_iaddN rfl ?_
  refine x_sld (j := 6 * j + 1) rfl (rfl) (by omega) (by omega) ?_
  refine x_aload_nF0 rfl rfl ?_
  refine x_iload_n rfl rfl ?_
  refine x_iconstN (q := 2) rfl ?_
  refine x_iaddN rfl ?_
  refine x_sld (j := 6 * j + 2) rfl (rfl) (by omega) (by omega) ?_
  refine x_callV (M' := mi113) (As := [_, _]) (bc1 := 3) (bs1 := 1000) (bc2 := 3 * m) (bs2 := 1000 * m) rfl rfl rfl rfl ok113 rfl rfl (by decide) rfl rfl rfl rfl (by omega) (by omega) ?_
  refine h.conseq (fun r lay1 VI1 VL1 VR1 hh => ?_)
  obtain ⟨a, ext1, rfl, rfl, h2⟩ := hh
  refine x_aload_n rfl rfl ?_
  refine x_aload_nF0 rfl rfl ?_
  refine x_iload_n rfl rfl ?_
  refine x_iconstN (q := 1) rfl ?_
  refine x_iaddN rfl ?_
  refine x_sld (j := 6 * j + 1) rfl (rfl) (by omega) (by omega) ?_
  refine x_aload_nF0 rfl rfl ?_
  refine x_iload_n rfl rfl ?_
  refine x_iconstN (q := 2) rfl ?_
  refine x_iaddN rfl ?_
  refine x_sld (j := 6 * j + 2) rfl (rfl) (by omega) (by omega) ?_
  refine x_callV (M' := mi185) (As := [_, _]) (bc1 := 0) (bs1 := 0) (bc2 := 3 * m) (bs2 := 1000 * m) rfl rfl rfl rfl ok185 rfl rfl (by decide) rfl rfl rfl rfl (by omega) (by omega) ?_
  refine h2.conseq (fun r2 lay2 VI2 VL2 VR2 hh => ?_)
  obtain ⟨rfl, hI⟩ := hh
  refine x_icmp_eq rfl (fun c362 => ?_) (fun c362 => ?_)
  rotate_left
  · exact absurd rfl c362
  refine x_iincN (q := 6) (ls' := [_, _, _, _]) rfl rfl rfl rfl ?_
  refine x_goto rfl ?_
  exact ih _ _ _ _ hI
set_option maxRecDepth 20000 in
theorem law_5 {j m : Nat} {ext : HL} {VI : VIT} {VL : VLT} {VR : VRT} {I : HL → VIT → VLT → VRT → Prop} (hL : L ≤ 3072) (hj : 6 * j + 6 ≤ L) (h : Call D 5 [xs (6 * j + 1), xs (6 * j + 2), xs (6 * j + 3), xs (6 * j + 4), xs (6 * j + 5)] (LY ++ ext) VI VL VR I) (ih : ∀ lay VI VL VR, I lay VI VL VR → ExS (Scr L xs) (D + 1) mi999 18 [.float 0, .ref 0, .ref 74, .int (nI (6 * (j + 1)))] [] lay VI VL VR (3 * m) (1000 * m) one) : ExS (Scr L xs) (D + 1) mi999 367 [.float 0, .ref 0, .ref 74, .int (nI (6 * j))] [] (LY ++ ext) VI VL VR (3 * (m + 1)) (1000 * (m + 1)) one := by
  refine x_aload_n rfl rfl ?_
  refine x_aload_nF0 rfl rfl ?_
  refine x_iload_n rfl rfl ?_
  refine x_iconstN (q := 1) rfl ?_
  refine x_iaddN rfl ?_
  refine x_sld (j := 6 * j + 1) rfl (rfl) (by omega) (by omega) ?_
  refine x_aload_nF0 rfl rfl ?_
  refine x_iload_n rfl rfl ?_
  refine x_iconstN (q := 2) rfl ?_
  refine x_iaddN rfl ?_
  refine x_sld (j := 6 * j + 2) rfl (rfl) (by omega) (by omega) ?_
  refine x_aload_nF0 rfl rfl ?_
  refine x_iload_n rfl rfl ?_
  refine x_iconstN (q := 3) rfl ?_
  refine x_iaddN rfl ?_
  refine x_sld (j := 6 * j + 3) rfl (rfl) (by omega) (by omega) ?_
  refine x_aload_nF0 rfl rfl ?_
  refine x_iload_n rfl rfl ?_
  refine x_iconstN (q := 4) rfl ?_
  refine x_iaddN rfl ?_
  refine x_sld (j := 6 * j + 4) rfl (rfl) (by omega) (by omega) ?_
  refine x_aload_nF0 rfl rfl ?_
  refine x_iload_n rfl rfl ?_
  refine x_iconstN (q := 5) rfl ?_
  refine x_iaddN rfl ?_
  refine x_sld (j := 6 * j + 5) rfl (rfl) (by omega) (by omega) ?_
  refine x_callV (M' := mi114) (As := [_, _, _, _, _]) (bc1 := 3) (bs1 := 1000) (bc2 := 3 * m) (bs2 := 1000 * m) rfl rfl rfl rfl ok114 rfl rfl (by decide) rfl rfl rfl rfl (by omega) (by omega) ?_
  refine h.conseq (fun r lay1 VI1 VL1 VR1 hh => ?_)
  obtain ⟨a, ext1, rfl, rfl, h2⟩ := hh
  refine x_aload_n rfl rfl ?_
  refine x_aload_nF0 rfl rfl ?_
  refine x_iload_n rfl rfl ?_
  refine x_iconstN (q := 1) rfl ?_
  refine x_iaddN rfl ?_
  refine x_sld (j := 6 * j + 1) rfl (rfl) (by omega) (by omega) ?_
  refine x_aload_nF0 rfl rfl ?_
  refine x_iload_n rfl rfl ?_
  refine x_iconstN (q := 2) rfl ?_
  refine x_iaddN rfl ?_
  refine x_sld (j := 6 * j + 2) rfl (rfl) (by omega) (by omega) ?_
  refine x_aload_nF0 rfl rfl ?_
  refine x_iload_n rfl rfl ?_
  refine x_iconstN (q := 3) rfl ?_
  refine x_iaddN rfl ?_
  refine x_sld (j := 6 * j + 3) rfl (rfl) (by omega) (by omega) ?_
  refine x_aload_nF0 rfl rfl ?_
  refine x_iload_n rfl rfl ?_
  refine x_iconstN (q := 4) rfl ?_
  refine x_iaddN rfl ?_
  refine x_sld (j := 6 * j + 4) rfl (rfl) (by omega) (by omega) ?_
  refine x_aload_nF0 rfl rfl ?_
  refine x_iload_n rfl rfl ?_
  refine x_iconstN (q := 5) rfl ?_
  refine x_iaddN rfl ?_
  refine x_sld (j := 6 * j + 5) rfl (rfl) (by omega) (by omega) ?_
  refine x_callV (M' := mi188) (As := [_, _, _, _, _]) (bc1 := 0) (bs1 := 0) (bc2 := 3 * m) (bs2 := 1000 * m) rfl rfl rfl rfl ok188 rfl rfl (by decide) rfl rfl rfl rfl (by omega) (by omega) ?_
  refine h2.conseq (fun r2 lay2 VI2 VL2 VR2 hh => ?_)
  obtain ⟨rfl, hI⟩ := hh
  refine x_icmp_eq rfl (fun c425 => ?_) (fun c425 => ?_)
  rotate_left
  · exact absurd rfl c425
  refine x_iincN (q := 6) (ls' := [_, _, _, _]) rfl rfl rfl rfl ?_
  refine x_goto rfl ?_
  exact ih _ _ _ _ hI
set_option maxRecDepth 20000 in
theorem law_6 {j m : Nat} {ext : HL} {VI : VIT} {VL : VLT} {VR : VRT} {I : HL → VIT → VLT → VRT → Prop} (hL : L ≤ 3072) (hj : 6 * j + 6 ≤ L) (h : Call D 6 [xs (6 * j + 1), xs (6 * j + 2), xs (6 * j + 3), xs (6 * j + 4), xs (6 * j + 5)] (LY ++ ext) VI VL VR I) (ih : ∀ lay VI VL VR, I lay VI VL VR → ExS (Scr L xs) (D + 1) mi999 18 [.float 0, .ref 0, .ref 74, .int (nI (6 * (j + 1)))] [] lay VI VL VR (3 * m) (1000 * m) one) : ExS (Scr L xs) (D + 1) mi999 430 [.float 0, .ref 0, .ref 74, .int (nI (6 * j))] [] (LY ++ ext) VI VL VR (3 * (m + 1)) (1000 * (m + 1)) one := by
  refine x_aload_n rfl rfl ?_
  refine x_aload_nF0 rfl rfl ?_
  refine x_iload_n rfl rfl ?_
  refine x_iconstN (q := 1) rfl ?_
  refine x_iaddN rfl ?_
  refine x_sld (j := 6 * j + 1) rfl (rfl) (by omega) (by omega) ?_
  refine x_callV (M' := mi115) (As := [_]) (bc1 := 3) (bs1 := 1000) (bc2 := 3 * m) (bs2 := 1000 * m) rfl rfl rfl rfl ok115 rfl rfl (by decide) rfl rfl rfl rfl (by omega) (by omega) ?_
  refine h.conseq (fun r lay1 VI1 VL1 VR1 hh => ?_)
  obtain ⟨a, ext1, rfl, rfl, h2⟩ := hh
  refine x_aload_n rfl rfl ?_
  refine x_aload_nF0 rfl rfl ?_
  refine x_iload_n rfl rfl ?_
  refine x_iconstN (q := 1) rfl ?_
  refine x_iaddN rfl ?_
  refine x_sld (j := 6 * j + 1) rfl (rfl) (by omega) (by omega) ?_
  refine x_callV (M' := mi189) (As := [_]) (bc1 := 0) (bs1 := 0) (bc2 := 3 * m) (bs2 := 1000 * m) rfl rfl rfl rfl ok189 rfl rfl (by decide) rfl rfl rfl rfl (by omega) (by omega) ?_
  refine h2.conseq (fun r2 lay2 VI2 VL2 VR2 hh => ?_)
  obtain ⟨rfl, hI⟩ := hh
  refine x_icmp_eq rfl (fun c448 => ?_) (fun c448 => ?_)
  rotate_left
  · exact absurd rfl c448
  refine x_iincN (q := 6) (ls' := [_, _, _, _]) rfl rfl rfl rfl ?_
  refine x_goto rfl ?_
  exact ih _ _ _ _ hI
set_option maxRecDepth 20000 in
theorem law_7 {j m : Nat} {ext : HL} {VI : VIT} {VL : VLT} {VR : VRT} {I : HL → VIT → VLT → VRT → Prop} (hL : L ≤ 3072) (hj : 6 * j + 6 ≤ L) (h : Call D 7 [xs (6 * j + 1), xs (6 * j + 2), xs (6 * j + 3), xs (6 * j + 4), xs (6 * j + 5)] (LY ++ ext) VI VL VR I) (ih : ∀ lay VI VL VR, I lay VI VL VR → ExS (Scr L xs) (D + 1) mi999 18 [.float 0, .ref 0, .ref 74, .int (nI (6 * (j + 1)))] [] lay VI VL VR (3 * m) (1000 * m) one) : ExS (Scr L xs) (D + 1) mi999 453 [.float 0, .ref 0, .ref 74, .int (nI (6 * j))] [] (LY ++ ext) VI VL VR (3 * (m + 1)) (1000 * (m + 1)) one := by
  refine x_aload_n rfl rfl ?_
  refine x_callV (M' := mi116) (As := []) (bc1 := 3) (bs1 := 1000) (bc2 := 3 * m) (bs2 := 1000 * m) rfl rfl rfl rfl ok116 rfl rfl (by decide) rfl rfl rfl rfl (by omega) (by omega) ?_
  refine h.conseq (fun r lay1 VI1 VL1 VR1 hh => ?_)
  obtain ⟨a, ext1, rfl, rfl, h2⟩ := hh
  refine x_aload_n rfl rfl ?_
  refine x_callV (M' := mi186) (As := []) (bc1 := 0) (bs1 := 0) (bc2 := 3 * m) (bs2 := 1000 * m) rfl rfl rfl rfl ok186 rfl rfl (by decide) rfl rfl rfl rfl (by omega) (by omega) ?_
  refine h2.conseq (fun r2 lay2 VI2 VL2 VR2 hh => ?_)
  obtain ⟨rfl, hI⟩ := hh
  refine x_icmp_eq rfl (fun c461 => ?_) (fun c461 => ?_)
  rotate_left
  · exact absurd rfl c461
  refine x_iincN (q := 6) (ls' := [_, _, _, _]) rfl rfl rfl rfl ?_
  refine x_goto rfl ?_
  exact ih _ _ _ _ hI
set_option maxRecDepth 20000 in
theorem law_8 {j m : Nat} {ext : HL} {VI : VIT} {VL : VLT} {VR : VRT} {I : HL → VIT → VLT → VRT → Prop} (hL : L ≤ 3072) (hj : 6 * j + 6 ≤ L) (h : Call D 8 [xs (6 * j + 1), xs (6 * j + 2), xs (6 * j + 3), xs (6 * j + 4), xs (6 * j + 5)] (LY ++ ext) VI VL VR I) (ih : ∀ lay VI VL VR, I lay VI VL VR → ExS (Scr L xs) (D + 1) mi999 18 [.float 0, .ref 0, .ref 74, .int (nI (6 * (j + 1)))] [] lay VI VL VR (3 * m) (1000 * m) one) : ExS (Scr L xs) (D + 1) mi999 466 [.float 0, .ref 0, .ref 74, .int (nI (6 * j))] [] (LY ++ ext) VI VL VR (3 * (m + 1)) (1000 * (m + 1)) one := by
  refine x_aload_n rfl rfl ?_
  refine x_callV (M' := mi117) (As := []) (bc1 := 3) (bs1 := 1000) (bc2 := 3 * m) (bs2 := 1000 * m) rfl rfl rfl rfl ok117 rfl rfl (by decide) rfl rfl rfl rfl (by omega) (by omega) ?_
  refine h.conseq (fun r lay1 VI1 VL1 VR1 hh => ?_)
  obtain ⟨a, ext1, rfl, rfl, h2⟩ := hh
  refine x_aload_n rfl rfl ?_
  refine x_callV (M' := mi187) (As := []) (bc1 := 0) (bs1 := 0) (bc2 := 3 * m) (bs2 := 1000 * m) rfl rfl rfl rfl ok187 rfl rfl (by decide) rfl rfl rfl rfl (by omega) (by omega) ?_
  refine h2.conseq (fun r2 lay2 VI2 VL2 VR2 hh => ?_)
  obtain ⟨rfl, hI⟩ := hh
  refine x_icmp_eq rfl (fun c474 => ?_) (fun c474 => ?_)
  rotate_left
  · exact absurd rfl c474
  refine x_iincN (q := 6) (ls' := [_, _, _, _]) rfl rfl rfl rfl ?_
  refine x_goto rfl ?_
  exact ih _ _ _ _ hI
set_option maxRecDepth 20000 in
theorem law_9 {j m : Nat} {ext : HL} {VI : VIT} {VL : VLT} {VR : VRT} {I : HL → VIT → VLT → VRT → Prop} (hL : L ≤ 3072) (hj : 6 * j + 6 ≤ L) (h : Call D 9 [xs (6 * j + 1), xs (6 * j + 2), xs (6 * j + 3), xs (6 * j + 4), xs (6 * j + 5)] (LY ++ ext) VI VL VR I) (ih : ∀ lay VI VL VR, I lay VI VL VR → ExS (Scr L xs) (D + 1) mi999 18 [.float 0, .ref 0, .ref 74, .int (nI (6 * (j + 1)))] [] lay VI VL VR (3 * m) (1000 * m) one) : ExS (Scr L xs) (D + 1) mi999 479 [.float 0, .ref 0, .ref 74, .int (nI (6 * j))] [] (LY ++ ext) VI VL VR (3 * (m + 1)) (1000 * (m + 1)) one := by
  refine x_aload_n rfl rfl ?_
  refine x_callV (M' := mi118) (As := []) (bc1 := 3) (bs1 := 1000) (bc2 := 3 * m) (bs2 := 1000 * m) rfl rfl rfl rfl ok118 rfl rfl (by decide) rfl rfl rfl rfl (by omega) (by omega) ?_
  refine h.conseq (fun r lay1 VI1 VL1 VR1 hh => ?_)
  obtain ⟨a, ext1, rfl, rfl, h2⟩ := hh
  refine x_aload_n rfl rfl ?_
  refine x_callV (M' := mi213) (As := []) (bc1 := 0) (bs1 := 0) (bc2 := 3 * m) (bs2 := 1000 * m) rfl rfl rfl rfl ok213 rfl rfl (by decide) rfl rfl rfl rfl (by omega) (by omega) ?_
  refine h2.conseq (fun r2 lay2 VI2 VL2 VR2 hh => ?_)
  obtain ⟨rfl, hI⟩ := hh
  refine x_icmp_eq rfl (fun c487 => ?_) (fun c487 => ?_)
  rotate_left
  · exact absurd rfl c487
  refine x_iincN (q := 6) (ls' := [_, _, _, _]) rfl rfl rfl rfl ?_
  refine x_goto rfl ?_
  exact ih _ _ _ _ hI
set_option maxRecDepth 20000 in
theorem law_10 {j m : Nat} {ext : HL} {VI : VIT} {VL : VLT} {VR : VRT} {I : HL → VIT → VLT → VRT → Prop} (hL : L ≤ 3072) (hj : 6 * j + 6 ≤ L) (h : Call D 10 [xs (6 * j + 1), xs (6 * j + 2), xs (6 * j + 3), xs (6 * j + 4), xs (6 * j + 5)] (LY ++ ext) VI VL VR I) (ih : ∀ lay VI VL VR, I lay VI VL VR → ExS (Scr L xs) (D + 1) mi999 18 [.float 0, .ref 0, .ref 74, .int (nI (6 * (j + 1)))] [] lay VI VL VR (3 * m) (1000 * m) one) : ExS (Scr L xs) (D + 1) mi999 492 [.float 0, .ref 0, .ref 74, .int (nI (6 * j))] [] (LY ++ ext) VI VL VR (3 * (m + 1)) (1000 * (m + 1)) one := by
  refine x_aload_n rfl rfl ?_
  refine x_callV (M' := mi119) (As := []) (bc1 := 3) (bs1 := 1000) (bc2 := 3 * m) (bs2 := 1000 * m) rfl rfl rfl rfl ok119 rfl rfl (by decide) rfl rfl rfl rfl (by omega) (by omega) ?_
  refine h.conseq (fun r lay1 VI1 VL1 VR1 hh => ?_)
  obtain ⟨a, ext1, rfl, rfl, h2⟩ := hh
  refine x_aload_n rfl rfl ?_
  refine x_callV (M' := mi269) (As := []) (bc1 := 0) (bs1 := 0) (bc2 := 3 * m) (bs2 := 1000 * m) rfl rfl rfl rfl ok269 rfl rfl (by decide) rfl rfl rfl rfl (by omega) (by omega) ?_
  refine h2.conseq (fun r2 lay2 VI2 VL2 VR2 hh => ?_)
  obtain ⟨rfl, hI⟩ := hh
  refine x_icmp_eq rfl (fun c500 => ?_) (fun c500 => ?_)
  rotate_left
  · exact absurd rfl c500
  refine x_iincN (q := 6) (ls' := [_, _, _, _]) rfl rfl rfl rfl ?_
  refine x_goto rfl ?_
  exact ih _ _ _ _ hI
set_option maxRecDepth 20000 in
theorem law_11 {j m : Nat} {ext : HL} {VI : VIT} {VL : VLT} {VR : VRT} {I : HL → VIT → VLT → VRT → Prop} (hL : L ≤ 3072) (hj : 6 * j + 6 ≤ L) (h : Call D 11 [xs (6 * j + 1), xs (6 * j + 2), xs (6 * j + 3), xs (6 * j + 4), xs (6 * j + 5)] (LY ++ ext) VI VL VR I) (ih : ∀ lay VI VL VR, I lay VI VL VR → ExS (Scr L xs) (D + 1) mi999 18 [.float 0, .ref 0, .ref 74, .int (nI (6 * (j + 1)))] [] lay VI VL VR (3 * m) (1000 * m) one) : ExS (Scr L xs) (D + 1) mi999 505 [.float 0, .ref 0, .ref 74, .int (nI (6 * j))] [] (LY ++ ext) VI VL VR (3 * (m + 1)) (1000 * (m + 1)) one := by
  refine x_aload_n rfl rfl ?_
  refine x_callV (M' := mi120) (As := []) (bc1 := 3) (bs1 := 1000) (bc2 := 3 * m) (bs2 := 1000 * m) rfl rfl rfl rfl ok120 rfl rfl (by decide) rfl rfl rfl rfl (by omega) (by omega) ?_
  refine h.conseq (fun r lay1 VI1 VL1 VR1 hh => ?_)
  obtain ⟨a, ext1, rfl, rfl, h2⟩ := hh
  refine x_aload_n rfl rfl ?_
  refine x_callV (M' := mi214) (As := []) (bc1 := 0) (bs1 := 0) (bc2 := 3 * m) (bs2 := 1000 * m) rfl rfl rfl rfl ok214 rfl rfl (by decide) rfl rfl rfl rfl (by omega) (by omega) ?_
  refine h2.conseq (fun r2 lay2 VI2 VL2 VR2 hh => ?_)
  obtain ⟨rfl, hI⟩ := hh
  refine x_icmp_eq rfl (fun c513 => ?_) (fun c513 => ?_)
  rotate_left
  · exact absurd rfl c513
  refine x_iincN (q := 6) (ls' := [_, _, _, _]) rfl rfl rfl rfl ?_
  refine x_goto rfl ?_
  exact ih _ _ _ _ hI
set_option maxRecDepth 20000 in
theorem law_12 {j m : Nat} {ext : HL} {VI : VIT} {VL : VLT} {VR : VRT} {I : HL → VIT → VLT → VRT → Prop} (hL : L ≤ 3072) (hj : 6 * j + 6 ≤ L) (h : Call D 12 [xs (6 * j + 1), xs (6 * j + 2), xs (6 * j + 3), xs (6 * j + 4), xs (6 * j + 5)] (LY ++ ext) VI VL VR I) (ih : ∀ lay VI VL VR, I lay VI VL VR → ExS (Scr L xs) (D + 1) mi999 18 [.float 0, .ref 0, .ref 74, .int (nI (6 * (j + 1)))] [] lay VI VL VR (3 * m) (1000 * m) one) : ExS (Scr L xs) (D + 1) mi999 518 [.float 0, .ref 0, .ref 74, .int (nI (6 * j))] [] (LY ++ ext) VI VL VR (3 * (m + 1)) (1000 * (m + 1)) one := by
  refine x_aload_n rfl rfl ?_
  refine x_callV (M' := mi121) (As := []) (bc1 := 3) (bs1 := 1000) (bc2 := 3 * m) (bs2 := 1000 * m) rfl rfl rfl rfl ok121 rfl rfl (by decide) rfl rfl rfl rfl (by omega) (by omega) ?_
  refine h.conseq (fun r lay1 VI1 VL1 VR1 hh => ?_)
  obtain ⟨a, ext1, rfl, rfl, h2⟩ := hh
  refine x_aload_n rfl rfl ?_
  refine x_callV (M' := mi268) (As := []) (bc1 := 0) (bs1 := 0) (bc2 := 3 * m) (bs2 := 1000 * m) rfl rfl rfl rfl ok268 rfl rfl (by decide) rfl rfl rfl rfl (by omega) (by omega) ?_
  refine h2.conseq (fun r2 lay2 VI2 VL2 VR2 hh => ?_)
  obtain ⟨rfl, hI⟩ := hh
  refine x_icmp_eq rfl (fun c526 => ?_) (fun c526 => ?_)
  rotate_left
  · exact absurd rfl c526
  refine x_iincN (q := 6) (ls' := [_, _, _, _]) rfl rfl rfl rfl ?_
  refine x_goto rfl ?_
  exact ih _ _ _ _ hI
set_option maxRecDepth 20000 in
theorem law_13 {j m : Nat} {ext : HL} {VI : VIT} {VL : VLT} {VR : VRT} {I : HL → VIT → VLT → VRT → Prop} (hL : L ≤ 3072) (hj : 6 * j + 6 ≤ L) (h : Call D 13 [xs (6 * j + 1), xs (6 * j + 2), xs (6 * j + 3), xs (6 * j + 4), xs (6 * j + 5)] (LY ++ ext) VI VL VR I) (ih : ∀ lay VI VL VR, I lay VI VL VR → ExS (Scr L xs) (D + 1) mi999 18 [.float 0, .ref 0, .ref 74, .int (nI (6 * (j + 1)))] [] lay VI VL VR (3 * m) (1000 * m) one) : ExS (Scr L xs) (D + 1) mi999 531 [.float 0, .ref 0, .ref 74, .int (nI (6 * j))] [] (LY ++ ext) VI VL VR (3 * (m + 1)) (1000 * (m + 1)) one := by
  refine x_aload_n rfl rfl ?_
  refine x_aload_nF0 rfl rfl ?_
  refine x_iload_n rfl rfl ?_
  refine x_iconstN (q := 1) rfl ?_
  refine x_iaddN rfl ?_
  refine x_sld (j := 6 * j + 1) rfl (rfl) (by omega) (by omega) ?_
  refine x_callV (M' := mi122) (As := [_]) (bc1 := 3) (bs1 := 1000) (bc2 := 3 * m) (bs2 := 1000 * m) rfl rfl rfl rfl ok122 rfl rfl (by decide) rfl rfl rfl rfl (by omega) (by omega) ?_
  refine h.conseq (fun r lay1 VI1 VL1 VR1 hh => ?_)
  obtain ⟨a, ext1, rfl, rfl, h2⟩ := hh
  refine x_aload_n rfl rfl ?_
  refine x_aload_nF0 rfl rfl ?_
  refine x_iload_n rfl rfl ?_
  refine x_iconstN (q := 1) rfl ?_
  refine x_iaddN rfl ?_
  refine x_sld (j := 6 * j + 1) rfl (rfl) (by omega) (by omega) ?_
  refine x_callV (M' := mi215) (As := [_]) (bc1 := 0) (bs1 := 0) (bc2 := 3 * m) (bs2 := 1000 * m) rfl rfl rfl rfl ok215 rfl rfl (by decide) rfl rfl rfl rfl (by omega) (by omega) ?_
  refine h2.conseq (fun r2 lay2 VI2 VL2 VR2 hh => ?_)
  obtain ⟨rfl, hI⟩ := hh
  refine x_icmp_eq rfl (fun c549 => ?_) (fun c549 => ?_)
  rotate_left
  · exact absurd rfl c549
  refine x_iincN (q := 6) (ls' := [_, _, _, _]) rfl rfl rfl rfl ?_
  refine x_goto rfl ?_
  exact ih _ _ _ _ hI
set_option maxRecDepth 20000 in
theorem law_14 {j m : Nat} {ext : HL} {VI : VIT} {VL : VLT} {VR : VRT} {I : HL → VIT → VLT → VRT → Prop} (hL : L ≤ 3072) (hj : 6 * j + 6 ≤ L) (h : Call D 14 [xs (6 * j + 1), xs (6 * j + 2), xs (6 * j + 3), xs (6 * j + 4), xs (6 * j + 5)] (LY ++ ext) VI VL VR I) (ih : ∀ lay VI VL VR, I lay VI VL VR → ExS (Scr L xs) (D + 1) mi999 18 [.float 0, .ref 0, .ref 74, .int (nI (6 * (j + 1)))] [] lay VI VL VR (3 * m) (1000 * m) one) : ExS (Scr L xs) (D + 1) mi999 554 [.float 0, .ref 0, .ref 74, .int (nI (6 * j))] [] (LY ++ ext) VI VL VR (3 * (m + 1)) (1000 * (m + 1)) one := by
  refine x_aload_n rfl rfl ?_
  refine x_aload_nF0 rfl rfl ?_
  refine x_iload_n rfl rfl ?_
  refine x_iconstN (q := 1) rfl ?_
  refine x_iaddN rfl ?_
  refine x_sld (j := 6 * j + 1) rfl (rfl) (by omega) (by omega) ?_
  refine x_aload_nF0 rfl rfl ?_
  refine x_iload_n rfl rfl ?_
  refine x_iconstN (q := 2) rfl ?_
  refine x_iaddN rfl ?_
  refine x_sld (j := 6 * j + 2) rfl (rfl) (by omega) (by omega) ?_
  refine x_aload_nF0 rfl rfl ?_
  refine x_iload_n rfl rfl ?_
  refine x_iconstN (q := 3) rfl ?_
  refine x_iaddN rfl ?_
  refine x_sld (j := 6 * j + 3) rfl (rfl) (by omega) (by omega) ?_
  refine x_aload_nF0 rfl rfl ?_
  refine x_iload_n rfl rfl ?_
  refine x_iconstN (q := 4) rfl ?_
  refine x_iaddN rfl ?_
  refine x_sld (j := 6 * j + 4) rfl (rfl) (by omega) (by omega) ?_
  refine x_callV (M' := mi123) (As := [_, _, _, _]) (bc1 := 3) (bs1 := 1000) (bc2 := 3 * m) (bs2 := 1000 * m) rfl rfl rfl rfl ok123 rfl rfl (by decide) rfl rfl rfl rfl (by omega) (by omega) ?_
  refine h.conseq (fun r lay1 VI1 VL1 VR1 hh => ?_)
  obtain ⟨a, ext1, rfl, rfl, h2⟩ := hh
  refine x_aload_n rfl rfl ?_
  refine x_aload_nF0 rfl rfl ?_
  refine x_iload_n rfl rfl ?_
  refine x_iconstN (q := 1) rfl ?_
  refine x_iaddN rfl ?_
  refine x_sld (j := 6 * j + 1) rfl (rfl) (by omega) (by omega) ?_
  refine x_aload_nF0 rfl rfl ?_
  refine x_iload_n rfl rfl ?_
  refine x_iconstN (q := 2) rfl ?_
  refine x_iaddN rfl ?_
  refine x_sld (j := 6 * j + 2) rfl (rfl) (by omega) (by omega) ?_
  refine x_aload_nF0 rfl rfl ?_
  refine x_iload_n rfl rfl ?_
  refine x_iconstN (q := 3) rfl ?_
  refine x_iaddN rfl ?_
  refine x_sld (j := 6 * j + 3) rfl (rfl) (by omega) (by omega) ?_
  refine x_aload_nF0 rfl rfl ?_
  refine x_iload_n rfl rfl ?_
  refine x_iconstN (q := 4) rfl ?_
  refine x_iaddN rfl ?_
  refine x_sld (j := 6 * j + 4) rfl (rfl) (by omega) (by omega) ?_
  refine x_callV (M' := mi231) (As := [_, _, _, _]) (bc1 := 0) (bs1 := 0) (bc2 := 3 * m) (bs2 := 1000 * m) rfl rfl rfl rfl ok231 rfl rfl (by decide) rfl rfl rfl rfl (by omega) (by omega) ?_
  refine h2.conseq (fun r2 lay2 VI2 VL2 VR2 hh => ?_)
  obtain ⟨rfl, hI⟩ := hh
  refine x_icmp_eq rfl (fun c602 => ?_) (fun c602 => ?_)
  rotate_left
  · exact absurd rfl c602
  refine x_iincN (q := 6) (ls' := [_, _, _, _]) rfl rfl rfl rfl ?_
  refine x_goto rfl ?_
  exact ih _ _ _ _ hI
set_option maxRecDepth 20000 in
theorem law_15 {j m : Nat} {ext : HL} {VI : VIT} {VL : VLT} {VR : VRT} {I : HL → VIT → VLT → VRT → Prop} (hL : L ≤ 3072) (hj : 6 * j + 6 ≤ L) (h : Call D 15 [xs (6 * j + 1), xs (6 * j + 2), xs (6 * j + 3), xs (6 * j + 4), xs (6 * j + 5)] (LY ++ ext) VI VL VR I) (ih : ∀ lay VI VL VR, I lay VI VL VR → ExS (Scr L xs) (D + 1) mi999 18 [.float 0, .ref 0, .ref 74, .int (nI (6 * (j + 1)))] [] lay VI VL VR (3 * m) (1000 * m) one) : ExS (Scr L xs) (D + 1) mi999 607 [.float 0, .ref 0, .ref 74, .int (nI (6 * j))] [] (LY ++ ext) VI VL VR (3 * (m + 1)) (1000 * (m + 1)) one := by
  refine x_aload_n rfl rfl ?_
  refine x_aload_nF0 rfl rfl ?_
  refine x_iload_n rfl rfl ?_
  refine x_iconstN (q := 1) rfl ?_
  refine x_iaddN rfl ?_
  refine x_sld (j := 6 * j + 1) rfl (rfl) (by omega) (by omega) ?_
  refine x_aload_nF0 rfl rfl ?_
  refine x_iload_n rfl rfl ?_
  refine x_iconstN (q := 2) rfl ?_
  refine x_iaddN rfl ?_
  refine x_sld (j := 6 * j + 2) rfl (rfl) (by omega) (by omega) ?_
  refine x_aload_nF0 rfl rfl ?_
  refine x_iload_n rfl rfl ?_
  refine x_iconstN (q := 3) rfl ?_
  refine x_iaddN rfl ?_
  refine x_sld (j := 6 * j + 3) rfl (rfl) (by omega) (by omega) ?_
  refine x_callV (M' := mi124) (As := [_, _, _]) (bc1 := 3) (bs1 := 1000) (bc2 := 3 * m) (bs2 := 1000 * m) rfl rfl rfl rfl ok124 rfl rfl (by decide) rfl rfl rfl rfl (by omega) (by omega) ?_
  refine h.conseq (fun r lay1 VI1 VL1 VR1 hh => ?_)
  obtain ⟨a, ext1, rfl, rfl, h2⟩ := hh
  refine x_aload_n rfl rfl ?_
  refine x_aload_nF0 rfl rfl ?_
  refine x_iload_n rfl rfl ?_
  refine x_iconstN (q := 1) rfl ?_
  refine x_iaddN rfl ?_
  refine x_sld (j := 6 * j + 1) rfl (rfl) (by omega) (by omega) ?_
  refine x_aload_nF0 rfl rfl ?_
  refine x_iload_n rfl rfl ?_
  refine x_iconstN (q := 2) rfl ?_
  refine x_iaddN rfl ?_
  refine x_sld (j := 6 * j + 2) rfl (rfl) (by omega) (by omega) ?_
  refine x_aload_nF0 rfl rfl ?_
  refine x_iload_n rfl rfl ?_
  refine x_iconstN (q := 3) rfl ?_
  refine x_iaddN rfl ?_
  refine x_sld (j := 6 * j + 3) rfl (rfl) (by omega) (by omega) ?_
  refine x_callV (M' := mi244) (As := [_, _, _]) (bc1 := 0) (bs1 := 0) (bc2 := 3 * m) (bs2 := 1000 * m) rfl rfl rfl rfl ok244 rfl rfl (by decide) rfl rfl rfl rfl (by omega) (by omega) ?_
  refine h2.conseq (fun r2 lay2 VI2 VL2 VR2 hh => ?_)
  obtain ⟨rfl, hI⟩ := hh
  refine x_icmp_eq rfl (fun c645 => ?_) (fun c645 => ?_)
  rotate_left
  · exact absurd rfl c645
  refine x_iincN (q := 6) (ls' := [_, _, _, _]) rfl rfl rfl rfl ?_
  refine x_goto rfl ?_
  exact ih _ _ _ _ hI
set_option maxRecDepth 20000 in
theorem law_16 {j m : Nat} {ext : HL} {VI : VIT} {VL : VLT} {VR : VRT} {I : HL → VIT → VLT → VRT → Prop} (hL : L ≤ 3072) (hj : 6 * j + 6 ≤ L) (h : Call D 16 [xs (6 * j + 1), xs (6 * j + 2), xs (6 * j + 3), xs (6 * j + 4), xs (6 * j + 5)] (LY ++ ext) VI VL VR I) (ih : ∀ lay VI VL VR, I lay VI VL VR → ExS (Scr L xs) (D + 1) mi999 18 [.float 0, .ref 0, .ref 74, .int (nI (6 * (j + 1)))] [] lay VI VL VR (3 * m) (1000 * m) one) : ExS (Scr L xs) (D + 1) mi999 650 [.float 0, .ref 0, .ref 74, .int (nI (6 * j))] [] (LY ++ ext) VI VL VR (3 * (m + 1)) (1000 * (m + 1)) one := by
  refine x_aload_n rfl rfl ?_
  refine x_aload_nF0 rfl rfl ?_
  refine x_iload_n rfl rfl ?_
  refine x_iconstN (q := 1) rfl ?_
  refine x_iaddN rfl ?_
  refine x_sld (j := 6 * j + 1) rfl (rfl) (by omega) (by omega) ?_
  refine x_callV (M' := mi125) (As := [_]) (bc1 := 3) (bs1 := 1000) (bc2 := 3 * m) (bs2 := 1000 * m) rfl rfl rfl rfl ok125 rfl rfl (by decide) rfl rfl rfl rfl (by omega) (by omega) ?_
  refine h.conseq (fun r lay1 VI1 VL1 VR1 hh => ?_)
  obtain ⟨a, ext1, rfl, rfl, h2⟩ := hh
  refine x_aload_n rfl rfl ?_
  refine x_aload_nF0 rfl rfl ?_
  refine x_iload_n rfl rfl ?_
  refine x_iconstN (q := 1) rfl ?_
  refine x_iaddN rfl ?_
  refine x_sld (j := 6 * j + 1) rfl (rfl) (by omega) (by omega) ?_
  refine x_callV (M' := mi245) (As := [_]) (bc1 := 0) (bs1 := 0) (bc2 := 3 * m) (bs2 := 1000 * m) rfl rfl rfl rfl ok245 rfl rfl (by decide) rfl rfl rfl rfl (by omega) (by omega) ?_
  refine h2.conseq (fun r2 lay2 VI2 VL2 VR2 hh => ?_)
  obtain ⟨rfl, hI⟩ := hh
  refine x_icmp_eq rfl (fun c668 => ?_) (fun c668 => ?_)
  rotate_left
  · exact absurd rfl c668
  refine x_iincN (q := 6) (ls' := [_, _, _, _]) rfl rfl rfl rfl ?_
  refine x_goto rfl ?_
  exact ih _ _ _ _ hI
set_option maxRecDepth 20000 in
theorem law_17 {j m : Nat} {ext : HL} {VI : VIT} {VL : VLT} {VR : VRT} {I : HL → VIT → VLT → VRT → Prop} (hL : L ≤ 3072) (hj : 6 * j + 6 ≤ L) (h : Call D 17 [xs (6 * j + 1), xs (6 * j + 2), xs (6 * j + 3), xs (6 * j + 4), xs (6 * j + 5)] (LY ++ ext) VI VL VR I) (ih : ∀ lay VI VL VR, I lay VI VL VR → ExS (Scr L xs) (D + 1) mi999 18 [.float 0, .ref 0, .ref 74, .int (nI (6 * (j + 1)))] [] lay VI VL VR (3 * m) (1000 * m) one) : ExS (Scr L xs) (D + 1) mi999 673 [.float 0, .ref 0, .ref 74, .int (nI (6 * j))] [] (LY ++ ext) VI VL VR (3 * (m + 1)) (1000 * (m + 1)) one := by
  refine x_aload_n rfl rfl ?_
  refine x_aload_nF0 rfl rfl ?_
  refine x_iload_n rfl rfl ?_
  refine x_iconstN (q := 1) rfl ?_
  refine x_iaddN rfl ?_
  refine x_sld (j := 6 * j + 1) rfl (rfl) (by omega) (by omega) ?_
  refine x_callV (M' := mi126) (As := [_]) (bc1 := 3) (bs1 := 1000) (bc2 := 3 * m) (bs2 := 1000 * m) rfl rfl rfl rfl ok126 rfl rfl (by decide) rfl rfl rfl rfl (by omega) (by omega) ?_
  refine h.conseq (fun r lay1 VI1 VL1 VR1 hh => ?_)
  obtain ⟨a, ext1, rfl, rfl, h2⟩ := hh
  refine x_aload_n rfl rfl ?_
  refine x_aload_nF0 rfl rfl ?_
  refine x_iload_n rfl rfl ?_
  refine x_iconstN (q := 1) rfl ?_
  refine x_iaddN rfl ?_
  refine x_sld (j := 6 * j + 1) rfl (rfl) (by omega) (by omega) ?_
  refine x_callV (M' := mi246) (As := [_]) (bc1 := 0) (bs1 := 0) (bc2 := 3 * m) (bs2 := 1000 * m) rfl rfl rfl rfl ok246 rfl rfl (by decide) rfl rfl rfl rfl (by omega) (by omega) ?_
  refine h2.conseq (fun r2 lay2 VI2 VL2 VR2 hh => ?_)
  obtain ⟨rfl, hI⟩ := hh
  refine x_icmp_eq rfl (fun c691 => ?_) (fun c691 => ?_)
  rotate_left
  · exact absurd rfl c691
  refine x_iincN (q := 6) (ls' := [_, _, _, _]) rfl rfl rfl rfl ?_
  refine x_goto rfl ?_
  exact ih _ _ _ _ hI
set_option maxRecDepth 20000 in
theorem law_18 {j m : Nat} {ext : HL} {VI : VIT} {VL : VLT} {VR : VRT} {I : HL → VIT → VLT → VRT → Prop} (hL : L ≤ 3072) (hj : 6 * j + 6 ≤ L) (h : Call D 18 [xs (6 * j + 1), xs (6 * j + 2), xs (6 * j + 3), xs (6 * j + 4), xs (6 * j + 5)] (LY ++ ext) VI VL VR I) (ih : ∀ lay VI VL VR, I lay VI VL VR → ExS (Scr L xs) (D + 1) mi999 18 [.float 0, .ref 0, .ref 74, .int (nI (6 * (j + 1)))] [] lay VI VL VR (3 * m) (1000 * m) one) : ExS (Scr L xs) (D + 1) mi999 696 [.float 0, .ref 0, .ref 74, .int (nI (6 * j))] [] (LY ++ ext) VI VL VR (3 * (m + 1)) (1000 * (m + 1)) one := by
  refine x_aload_n rfl rfl ?_
  refine x_callV (M' := mi127) (As := []) (bc1 := 3) (bs1 := 1000) (bc2 := 3 * m) (bs2 := 1000 * m) rfl rfl rfl rfl ok127 rfl rfl (by decide) rfl rfl rfl rfl (by omega) (by omega) ?_
  refine h.conseq (fun r lay1 VI1 VL1 VR1 hh => ?_)
  obtain ⟨a, ext1, rfl, rfl, h2⟩ := hh
  refine x_aload_n rfl rfl ?_
  refine x_callV (M' := mi247) (As := []) (bc1 := 0) (bs1 := 0) (bc2 := 3 * m) (bs2 := 1000 * m) rfl rfl rfl rfl ok247 rfl rfl (by decide) rfl rfl rfl rfl (by omega) (by omega) ?_
  refine h2.conseq (fun r2 lay2 VI2 VL2 VR2 hh => ?_)
  obtain ⟨rfl, hI⟩ := hh
  refine x_icmp_eq rfl (fun c704 => ?_) (fun c704 => ?_)
  rotate_left
  · exact absurd rfl c704
  refine x_iincN (q := 6) (ls' := [_, _, _, _]) rfl rfl rfl rfl ?_
  refine x_goto rfl ?_
  exact ih _ _ _ _ hI
set_option maxRecDepth 20000 in
theorem law_19 {j m : Nat} {ext : HL} {VI : VIT} {VL : VLT} {VR : VRT} {I : HL → VIT → VLT → VRT → Prop} (hL : L ≤ 3072) (hj : 6 * j + 6 ≤ L) (h : Call D 19 [xs (6 * j + 1), xs (6 * j + 2), xs (6 * j + 3), xs (6 * j + 4), xs (6 * j + 5)] (LY ++ ext) VI VL VR I) (ih : ∀ lay VI VL VR, I lay VI VL VR → ExS (Scr L xs) (D + 1) mi999 18 [.float 0, .ref 0, .ref 74, .int (nI (6 * (j + 1)))] [] lay VI VL VR (3 * m) (1000 * m) one) : ExS (Scr L xs) (D + 1) mi999 709 [.float 0, .ref 0, .ref 74, .int (nI (6 * j))] [] (LY ++ ext) VI VL VR (3 * (m + 1)) (1000 * (m + 1)) one := by
  refine x_aload_n rfl rfl ?_
  refine x_callV (M' := mi128) (As := []) (bc1 := 3) (bs1 := 1000) (bc2 := 3 * m) (bs2 := 1000 * m) rfl rfl rfl rfl ok128 rfl rfl (by decide) rfl rfl rfl rfl (by omega) (by omega) ?_
  refine h.conseq (fun r lay1 VI1 VL1 VR1 hh => ?_)
  obtain ⟨a, ext1, rfl, rfl, h2⟩ := hh
  refine x_aload_n rfl rfl ?_
  refine x_callV (M' := mi236) (As := []) (bc1 := 0) (bs1 := 0) (bc2 := 3 * m) (bs2 := 1000 * m) rfl rfl rfl rfl ok236 rfl rfl (by decide) rfl rfl rfl rfl (by omega) (by omega) ?_
  refine h2.conseq (fun r2 lay2 VI2 VL2 VR2 hh => ?_)
  obtain ⟨rfl, hI⟩ := hh
  refine x_icmp_eq rfl (fun c717 => ?_) (fun c717 => ?_)
  rotate_left
  · exact absurd rfl c717
  refine x_iincN (q := 6) (ls' := [_, _, _, _]) rfl rfl rfl rfl ?_
  refine x_goto rfl ?_
  exact ih _ _ _ _ hI
set_option maxRecDepth 20000 in
theorem law_20 {j m : Nat} {ext : HL} {VI : VIT} {VL : VLT} {VR : VRT} {I : HL → VIT → VLT → VRT → Prop} (hL : L ≤ 3072) (hj : 6 * j + 6 ≤ L) (h : Call D 20 [xs (6 * j + 1), xs (6 * j + 2), xs (6 * j + 3), xs (6 * j + 4), xs (6 * j + 5)] (LY ++ ext) VI VL VR I) (ih : ∀ lay VI VL VR, I lay VI VL VR → ExS (Scr L xs) (D + 1) mi999 18 [.float 0, .ref 0, .ref 74, .int (nI (6 * (j + 1)))] [] lay VI VL VR (3 * m) (1000 * m) one) : ExS (Scr L xs) (D + 1) mi999 722 [.float 0, .ref 0, .ref 74, .int (nI (6 * j))] [] (LY ++ ext) VI VL VR (3 * (m + 1)) (1000 * (m + 1)) one := by
  refine x_aload_n rfl rfl ?_
  refine x_aload_nF0 rfl rfl ?_
  refine x_iload_n rfl rfl ?_
  refine x_iconstN (q := 1) rfl ?_
  refine x_iaddN rfl ?_
  refine x_sld (j := 6 * j + 1) rfl (rfl) (by omega) (by omega) ?_
  refine x_aload_nF0 rfl rfl ?_
  refine x_iload_n rfl rfl ?_
  refine x_iconstN (q := 2) rfl ?_
  refine x_iaddN rfl ?_
  refine x_sld (j := 6 * j + 2) rfl (rfl) (by omega) (by omega) ?_
  refine x_callV (M' := mi129) (As := [_, _]) (bc1 := 3) (bs1 := 1000) (bc2 := 3 * m) (bs2 := 1000 * m) rfl rfl rfl rfl ok129 rfl rfl (by decide) rfl rfl rfl rfl (by omega) (by omega) ?_
  refine h.conseq (fun r lay1 VI1 VL1 VR1 hh => ?_)
  obtain ⟨a, ext1, rfl, rfl, h2⟩ := hh
  refine x_aload_n rfl rfl ?_
  refine x_aload_nF0 rfl rfl ?_
  refine x_iload_n rfl rfl ?_
  refine x_iconstN (q := 1) rfl ?_
  refine x_iaddN rfl ?_
  refine x_sld (j := 6 * j + 1) rfl (rfl) (by omega) (by omega) ?_
  refine x_aload_nF0 rfl rfl ?_
  refine x_iload_n rfl rfl ?_
  refine x_iconstN (q := 2) rfl ?_
  refine x_iaddN rfl ?_
  refine x_sld (j := 6 * j + 2) rfl (rfl) (by omega) (by omega) ?_
  refine x_callV (M' := mi251) (As := [_, _]) (bc1 := 0) (bs1 := 0) (bc2 := 3 * m) (bs2 := 1000 * m) rfl rfl rfl rfl ok251 rfl rfl (by decide) rfl rfl rfl rfl (by omega) (by omega) ?_
  refine h2.conseq (fun r2 lay2 VI2 VL2 VR2 hh => ?_)
  obtain ⟨rfl, hI⟩ := hh
  refine x_icmp_eq rfl (fun c750 => ?_) (fun c750 => ?_)
  rotate_left
  · exact absurd rfl c750
  refine x_iincN (q := 6) (ls' := [_, _, _, _]) rfl rfl rfl rfl ?_
  refine x_goto rfl ?_
  exact ih _ _ _ _ hI
set_option maxRecDepth 20000 in
theorem law_21 {j m : Nat} {ext : HL} {VI : VIT} {VL : VLT} {VR : VRT} {I : HL → VIT → VLT → VRT → Prop} (hL : L ≤ 3072) (hj : 6 * j + 6 ≤ L) (h : Call D 21 [xs (6 * j + 1), xs (6 * j + 2), xs (6 * j + 3), xs (6 * j + 4), xs (6 * j + 5)] (LY ++ ext) VI VL VR I) (ih : ∀ lay VI VL VR, I lay VI VL VR → ExS (Scr L xs) (D + 1) mi999 18 [.float 0, .ref 0, .ref 74, .int (nI (6 * (j + 1)))] [] lay VI VL VR (3 * m) (1000 * m) one) : ExS (Scr L xs) (D + 1) mi999 755 [.float 0, .ref 0, .ref 74, .int (nI (6 * j))] [] (LY ++ ext) VI VL VR (3 * (m + 1)) (1000 * (m + 1)) one := by
  refine x_aload_n rfl rfl ?_
  refine x_aload_nF0 rfl rfl ?_
  refine x_iload_n rfl rfl ?_
  refine x_iconstN (q := 1) rfl ?_
  refine x_iaddN rfl ?_
  refine x_sld (j := 6 * j + 1) rfl (rfl) (by omega) (by omega) ?_
  refine x_callV (M' := mi130) (As := [_]) (bc1 := 3) (bs1 := 1000) (bc2 := 3 * m) (bs2 := 1000 * m) rfl rfl rfl rfl ok130 rfl rfl (by decide) rfl rfl rfl rfl (by omega) (by omega) ?_
  refine h.conseq (fun r lay1 VI1 VL1 VR1 hh => ?_)
  obtain ⟨a, ext1, rfl, rfl, h2⟩ := hh
  refine x_aload_n rfl rfl ?_
  refine x_aload_nF0 rfl rfl ?_
  refine x_iload_n rfl rfl ?_
  refine x_iconstN (q := 1) rfl ?_
  refine x_iaddN rfl ?_
  refine x_sld (j := 6 * j + 1) rfl (rfl) (by omega) (by omega) ?_
  refine x_callV (M' := mi252) (As := [_]) (bc1 := 0) (bs1 := 0) (bc2 := 3 * m) (bs2 := 1000 * m) rfl rfl rfl rfl ok252 rfl rfl (by decide) rfl rfl rfl rfl (by omega) (by omega) ?_
  refine h2.conseq (fun r2 lay2 VI2 VL2 VR2 hh => ?_)
  obtain ⟨rfl, hI⟩ := hh
  refine x_icmp_eq rfl (fun c773 => ?_) (fun c773 => ?_)
  rotate_left
  · exact absurd rfl c773
  refine x_iincN (q := 6) (ls' := [_, _, _, _]) rfl rfl rfl rfl ?_
  refine x_goto rfl ?_
  exact ih _ _ _ _ hI
set_option maxRecDepth 20000 in
theorem law_22 {j m : Nat} {ext : HL} {VI : VIT} {VL : VLT} {VR : VRT} {I : HL → VIT → VLT → VRT → Prop} (hL : L ≤ 3072) (hj : 6 * j + 6 ≤ L) (h : Call D 22 [xs (6 * j + 1), xs (6 * j + 2), xs (6 * j + 3), xs (6 * j + 4), xs (6 * j + 5)] (LY ++ ext) VI VL VR I) (ih : ∀ lay VI VL VR, I lay VI VL VR → ExS (Scr L xs) (D + 1) mi999 18 [.float 0, .ref 0, .ref 74, .int (nI (6 * (j + 1)))] [] lay VI VL VR (3 * m) (1000 * m) one) : ExS (Scr L xs) (D + 1) mi999 778 [.float 0, .ref 0, .ref 74, .int (nI (6 * j))] [] (LY ++ ext) VI VL VR (3 * (m + 1)) (1000 * (m + 1)) one := by
  refine x_aload_n rfl rfl ?_
  refine x_aload_nF0 rfl rfl ?_
  refine x_iload_n rfl rfl ?_
  refine x_iconstN (q := 1) rfl ?_
  refine x_iaddN rfl ?_
  refine x_sld (j := 6 * j + 1) rfl (rfl) (by omega) (by omega) ?_
  refine x_aload_nF0 rfl rfl ?_
  refine x_iload_n rfl rfl ?_
  refine x_iconstN (q := 2) rfl ?_
  refine x_iaddN rfl ?_
  refine x_sld (j := 6 * j + 2) rfl (rfl) (by omega) (by omega) ?_
  refine x_callV (M' := mi131) (As := [_, _]) (bc1 := 3) (bs1 := 1000) (bc2 := 3 * m) (bs2 := 1000 * m) rfl rfl rfl rfl ok131 rfl rfl (by decide) rfl rfl rfl rfl (by omega) (by omega) ?_
  refine h.conseq (fun r lay1 VI1 VL1 VR1 hh => ?_)
  obtain ⟨a, ext1, rfl, rfl, h2⟩ := hh
  refine x_aload_n rfl rfl ?_
  refine x_aload_nF0 rfl rfl ?_
  refine x_iload_n rfl rfl ?_
  refine x_iconstN (q := 1) rfl ?_
  refine x_iaddN rfl ?_
  refine x_sld (j := 6 * j + 1) rfl (rfl) (by omega) (by omega) ?_
  refine x_aload_nF0 rfl rfl ?_
  refine x_iload_n rfl rfl ?_
  refine x_iconstN (q := 2) rfl ?_
  refine x_iaddN rfl ?_
  refine x_sld (j := 6 * j + 2) rfl (rfl) (by omega) (by omega) ?_
  refine x_callV (M' := mi253) (As := [_, _]) (bc1 := 0) (bs1 := 0) (bc2 := 3 * m) (bs2 := 1000 * m) rfl rfl rfl rfl ok253 rfl rfl (by decide) rfl rfl rfl rfl (by omega) (by omega) ?_
  refine h2.conseq (fun r2 lay2 VI2 VL2 VR2 hh => ?_)
  obtain ⟨rfl, hI⟩ := hh
  refine x_icmp_eq rfl (fun c806 => ?_) (fun c806 => ?_)
  rotate_left
  · exact absurd rfl c806
  refine x_iincN (q := 6) (ls' := [_, _, _, _]) rfl rfl rfl rfl ?_
  refine x_goto rfl ?_
  exact ih _ _ _ _ hI
set_option maxRecDepth 20000 in
theorem law_23 {j m : Nat} {ext : HL} {VI : VIT} {VL : VLT} {VR : VRT} {I : HL → VIT → VLT → VRT → Prop} (hL : L ≤ 3072) (hj : 6 * j + 6 ≤ L) (h : Call D 23 [xs (6 * j + 1), xs (6 * j + 2), xs (6 * j + 3), xs (6 * j + 4), xs (6 * j + 5)] (LY ++ ext) VI VL VR I) (ih : ∀ lay VI VL VR, I lay VI VL VR → ExS (Scr L xs) (D + 1) mi999 18 [.float 0, .ref 0, .ref 74, .int (nI (6 * (j + 1)))] [] lay VI VL VR (3 * m) (1000 * m) one) : ExS (Scr L xs) (D + 1) mi999 811 [.float 0, .ref 0, .ref 74, .int (nI (6 * j))] [] (LY ++ ext) VI VL VR (3 * (m + 1)) (1000 * (m + 1)) one := by
  refine x_aload_n rfl rfl ?_
  refine x_aload_nF0 rfl rfl ?_
  refine x_iload_n rfl rfl ?_
  refine x_iconstN (q := 1) rfl ?_
  refine x_iaddN rfl ?_
  refine x_sld (j := 6 * j + 1) rfl (rfl) (by omega) (by omega) ?_
  refine x_callV (M' := mi132) (As := [_]) (bc1 := 3) (bs1 := 1000) (bc2 := 3 * m) (bs2 := 1000 * m) rfl rfl rfl rfl ok132 rfl rfl (by decide) rfl rfl rfl rfl (by omega) (by omega) ?_
  refine h.conseq (fun r lay1 VI1 VL1 VR1 hh => ?_)
  obtain ⟨a, ext1, rfl, rfl, h2⟩ := hh
  refine x_aload_n rfl rfl ?_
  refine x_aload_nF0 rfl rfl ?_
  refine x_iload_n rfl rfl ?_
  refine x_iconstN (q := 1) rfl ?_
  refine x_iaddN rfl ?_
  refine x_sld (j := 6 * j + 1) rfl (rfl) (by omega) (by omega) ?_
  refine x_callV (M' := mi257) (As := [_]) (bc1 := 0) (bs1 := 0) (bc2 := 3 * m) (bs2 := 1000 * m) rfl rfl rfl rfl ok257 rfl rfl (by decide) rfl rfl rfl rfl (by omega) (by omega) ?_
  refine h2.conseq (fun r2 lay2 VI2 VL2 VR2 hh => ?_)
  obtain ⟨rfl, hI⟩ := hh
  refine x_icmp_eq rfl (fun c829 => ?_) (fun c829 => ?_)
  rotate_left
  · exact absurd rfl c829
  refine x_iincN (q := 6) (ls' := [_, _, _, _]) rfl rfl rfl rfl ?_
  refine x_goto rfl ?_
  exact ih _ _ _ _ hI
set_option maxRecDepth 20000 in
theorem law_24 {j m : Nat} {ext : HL} {VI : VIT} {VL : VLT} {VR : VRT} {I : HL → VIT → VLT → VRT → Prop} (hL : L ≤ 3072) (hj : 6 * j + 6 ≤ L) (h : Call D 24 [xs (6 * j + 1), xs (6 * j + 2), xs (6 * j + 3), xs (6 * j + 4), xs (6 * j + 5)] (LY ++ ext) VI VL VR I) (ih : ∀ lay VI VL VR, I lay VI VL VR → ExS (Scr L xs) (D + 1) mi999 18 [.float 0, .ref 0, .ref 74, .int (nI (6 * (j + 1)))] [] lay VI VL VR (3 * m) (1000 * m) one) : ExS (Scr L xs) (D + 1) mi999 834 [.float 0, .ref 0, .ref 74, .int (nI (6 * j))] [] (LY ++ ext) VI VL VR (3 * (m + 1)) (1000 * (m + 1)) one := by
  refine x_aload_n rfl rfl ?_
  refine x_aload_nF0 rfl rfl ?_
  refine x_iload_n rfl rfl ?_
  refine x_iconstN (q := 1) rfl ?_
  refine x_iaddN rfl ?_
  refine x_sld (j := 6 * j + 1) rfl (rfl) (by omega) (by omega) ?_
  refine x_aload_nF0 rfl rfl ?_
  refine x_iload_n rfl rfl ?_
  refine x_iconstN (q := 2) rfl ?_
  refine x_iaddN rfl ?_
  refine x_sld (j := 6 * j + 2) rfl (rfl) (by omega) (by omega) ?_
  refine x_aload_nF0 rfl rfl ?_
  refine x_iload_n rfl rfl ?_
  refine x_iconstN (q := 3) rfl ?_
  refine x_iaddN rfl ?_
  refine x_sld (j := 6 * j + 3) rfl (rfl) (by omega) (by omega) ?_
  refine x_callV (M' := mi133) (As := [_, _, _]) (bc1 := 3) (bs1 := 1000) (bc2 := 3 * m) (bs2 := 1000 * m) rfl rfl rfl rfl ok133 rfl rfl (by decide) rfl rfl rfl rfl (by omega) (by omega) ?_
  refine h.conseq (fun r lay1 VI1 VL1 VR1 hh => ?_)
  obtain ⟨a, ext1, rfl, rfl, h2⟩ := hh
  refine x_aload_n rfl rfl ?_
  refine x_aload_nF0 rfl rfl ?_
  refine x_iload_n rfl rfl ?_
  refine x_iconstN (q := 1) rfl ?_
  refine x_iaddN rfl ?_
  refine x_sld (j := 6 * j + 1) rfl (rfl) (by omega) (by omega) ?_
  refine x_aload_nF0 rfl rfl ?_
  refine x_iload_n rfl rfl ?_
  refine x_iconstN (q := 2) rfl ?_
  refine x_iaddN rfl ?_
  refine x_sld (j := 6 * j + 2) rfl (rfl) (by omega) (by omega) ?_
  refine x_aload_nF0 rfl rfl ?_
  refine x_iload_n rfl rfl ?_
  refine x_iconstN (q := 3) rfl ?_
  refine x_iaddN rfl ?_
  refine x_sld (j := 6 * j + 3) rfl (rfl) (by omega) (by omega) ?_
  refine x_callV (M' := mi258) (As := [_, _, _]) (bc1 := 0) (bs1 := 0) (bc2 := 3 * m) (bs2 := 1000 * m) rfl rfl rfl rfl ok258 rfl rfl (by decide) rfl rfl rfl rfl (by omega) (by omega) ?_
  refine h2.conseq (fun r2 lay2 VI2 VL2 VR2 hh => ?_)
  obtain ⟨rfl, hI⟩ := hh
  refine x_icmp_eq rfl (fun c872 => ?_) (fun c872 => ?_)
  rotate_left
  · exact absurd rfl c872
  refine x_iincN (q := 6) (ls' := [_, _, _, _]) rfl rfl rfl rfl ?_
  refine x_goto rfl ?_
  exact ih _ _ _ _ hI
set_option maxRecDepth 20000 in
theorem law_25 {j m : Nat} {ext : HL} {VI : VIT} {VL : VLT} {VR : VRT} {I : HL → VIT → VLT → VRT → Prop} (hL : L ≤ 3072) (hj : 6 * j + 6 ≤ L) (h : Call D 25 [xs (6 * j + 1), xs (6 * j + 2), xs (6 * j + 3), xs (6 * j + 4), xs (6 * j + 5)] (LY ++ ext) VI VL VR I) (ih : ∀ lay VI VL VR, I lay VI VL VR → ExS (Scr L xs) (D + 1) mi999 18 [.float 0, .ref 0, .ref 74, .int (nI (6 * (j + 1)))] [] lay VI VL VR (3 * m) (1000 * m) one) : ExS (Scr L xs) (D + 1) mi999 877 [.float 0, .ref 0, .ref 74, .int (nI (6 * j))] [] (LY ++ ext) VI VL VR (3 * (m + 1)) (1000 * (m + 1)) one := by
  refine x_aload_n rfl rfl ?_
  refine x_callV (M' := mi134) (As := []) (bc1 := 3) (bs1 := 1000) (bc2 := 3 * m) (bs2 := 1000 * m) rfl rfl rfl rfl ok134 rfl rfl (by decide) rfl rfl rfl rfl (by omega) (by omega) ?_
  refine h.conseq (fun r lay1 VI1 VL1 VR1 hh => ?_)
  obtain ⟨a, ext1, rfl, rfl, h2⟩ := hh
  refine x_aload_n rfl rfl ?_
  refine x_callV (M' := mi259) (As := []) (bc1 := 0) (bs1 := 0) (bc2 := 3 * m) (bs2 := 1000 * m) rfl rfl rfl rfl ok259 rfl rfl (by decide) rfl rfl rfl rfl (by omega) (by omega) ?_
  refine h2.conseq (fun r2 lay2 VI2 VL2 VR2 hh => ?_)
  obtain ⟨rfl, hI⟩ := hh
  refine x_icmp_eq rfl (fun c885 => ?_) (fun c885 => ?_)
  rotate_left
  · exact absurd rfl c885
  refine x_iincN (q := 6) (ls' := [_, _, _, _]) rfl rfl rfl rfl ?_
  refine x_goto rfl ?_
  exact ih _ _ _ _ hI
set_option maxRecDepth 20000 in
theorem law_26 {j m : Nat} {ext : HL} {VI : VIT} {VL : VLT} {VR : VRT} {I : HL → VIT → VLT → VRT → Prop} (hL : L ≤ 3072) (hj : 6 * j + 6 ≤ L) (h : Call D 26 [xs (6 * j + 1), xs (6 * j + 2), xs (6 * j + 3), xs (6 * j + 4), xs (6 * j + 5)] (LY ++ ext) VI VL VR I) (ih : ∀ lay VI VL VR, I lay VI VL VR → ExS (Scr L xs) (D + 1) mi999 18 [.float 0, .ref 0, .ref 74, .int (nI (6 * (j + 1)))] [] lay VI VL VR (3 * m) (1000 * m) one) : ExS (Scr L xs) (D + 1) mi999 890 [.float 0, .ref 0, .ref 74, .int (nI (6 * j))] [] (LY ++ ext) VI VL VR (3 * (m + 1)) (1000 * (m + 1)) one := by
  refine x_aload_n rfl rfl ?_
  refine x_aload_nF0 rfl rfl ?_
  refine x_iload_n rfl rfl ?_
  refine x_iconstN (q := 1) rfl ?_
  refine x_iaddN rfl ?_
  refine x_sld (j := 6 * j + 1) rfl (rfl) (by omega) (by omega) ?_
  refine x_aload_nF0 rfl rfl ?_
  refine x_iload_n rfl rfl ?_
  refine x_iconstN (q := 2) rfl ?_
  refine x_iaddN rfl ?_
  refine x_sld (j := 6 * j + 2) rfl (rfl) (by omega) (by omega) ?_
  refine x_aload_nF0 rfl rfl ?_
  refine x_iload_n rfl rfl ?_
  refine x_iconstN (q := 3) rfl ?_
  refine x_iaddN rfl ?_
  refine x_sld (j := 6 * j + 3) rfl (rfl) (by omega) (by omega) ?_
  refine x_callV (M' := mi135) (As := [_, _, _]) (bc1 := 3) (bs1 := 1000) (bc2 := 3 * m) (bs2 := 1000 * m) rfl rfl rfl rfl ok135 rfl rfl (by decide) rfl rfl rfl rfl (by omega) (by omega) ?_
  refine h.conseq (fun r lay1 VI1 VL1 VR1 hh => ?_)
  obtain ⟨a, ext1, rfl, rfl, h2⟩ := hh
  refine x_aload_n rfl rfl ?_
  refine x_aload_nF0 rfl rfl ?_
  refine x_iload_n rfl rfl ?_
  refine x_iconstN (q := 1) rfl ?_
  refine x_iaddN rfl ?_
  refine x_sld (j := 6 * j + 1) rfl (rfl) (by omega) (by omega) ?_
  refine x_aload_nF0 rfl rfl ?_
  refine x_iload_n rfl rfl ?_
  refine x_iconstN (q := 2) rfl ?_
  refine x_iaddN rfl ?_
  refine x_sld (j := 6 * j + 2) rfl (rfl) (by omega) (by omega) ?_
  refine x_aload_nF0 rfl rfl ?_
  refine x_iload_n rfl rfl ?_
  refine x_iconstN (q := 3) rfl ?_
  refine x_iaddN rfl ?_
  refine x_sld (j := 6 * j + 3) rfl (rfl) (by omega) (by omega) ?_
  refine x_callV (M' := mi262) (As := [_, _, _]) (bc1 := 0) (bs1 := 0) (bc2 := 3 * m) (bs2 := 1000 * m) rfl rfl rfl rfl ok262 rfl rfl (by decide) rfl rfl rfl rfl (by omega) (by omega) ?_
  refine h2.conseq (fun r2 lay2 VI2 VL2 VR2 hh => ?_)
  obtain ⟨rfl, hI⟩ := hh
  refine x_icmp_eq rfl (fun c928 => ?_) (fun c928 => ?_)
  rotate_left
  · exact absurd rfl c928
  refine x_iincN (q := 6) (ls' := [_, _, _, _]) rfl rfl rfl rfl ?_
  refine x_goto rfl ?_
  exact ih _ _ _ _ hI
set_option maxRecDepth 20000 in
theorem law_27 {j m : Nat} {ext : HL} {VI : VIT} {VL : VLT} {VR : VRT} {I : HL → VIT → VLT → VRT → Prop} (hL : L ≤ 3072) (hj : 6 * j + 6 ≤ L) (h : Call D 27 [xs (6 * j + 1), xs (6 * j + 2), xs (6 * j + 3), xs (6 * j + 4), xs (6 * j + 5)] (LY ++ ext) VI VL VR I) (ih : ∀ lay VI VL VR, I lay VI VL VR → ExS (Scr L xs) (D + 1) mi999 18 [.float 0, .ref 0, .ref 74, .int (nI (6 * (j + 1)))] [] lay VI VL VR (3 * m) (1000 * m) one) : ExS (Scr L xs) (D + 1) mi999 933 [.float 0, .ref 0, .ref 74, .int (nI (6 * j))] [] (LY ++ ext) VI VL VR (3 * (m + 1)) (1000 * (m + 1)) one := by
  refine x_aload_n rfl rfl ?_
  refine x_aload_nF0 rfl rfl ?_
  refine x_iload_n rfl rfl ?_
  refine x_iconstN (q := 1) rfl ?_
  refine x_iaddN rfl ?_
  refine x_sld (j := 6 * j + 1) rfl (rfl) (by omega) (by omega) ?_
  refine x_aload_nF0 rfl rfl ?_
  refine x_iload_n rfl rfl ?_
  refine x_iconstN (q := 2) rfl ?_
  refine x_iaddN rfl ?_
  refine x_sld (j := 6 * j + 2) rfl (rfl) (by omega) (by omega) ?_
  refine x_callV (M' := mi136) (As := [_, _]) (bc1 := 3) (bs1 := 1000) (bc2 := 3 * m) (bs2 := 1000 * m) rfl rfl rfl rfl ok136 rfl rfl (by decide) rfl rfl rfl rfl (by omega) (by omega) ?_
  refine h.conseq (fun r lay1 VI1 VL1 VR1 hh => ?_)
  obtain ⟨a, ext1, rfl, rfl, h2⟩ := hh
  refine x_aload_n rfl rfl ?_
  refine x_aload_nF0 rfl rfl ?_
  refine x_iload_n rfl rfl ?_
  refine x_iconstN (q := 1) rfl ?_
  refine x_iaddN rfl ?_
  refine x_sld (j := 6 * j + 1) rfl (rfl) (by omega) (by omega) ?_
  refine x_aload_nF0 rfl rfl ?_
  refine x_iload_n rfl rfl ?_
  refine x_iconstN (q := 2) rfl ?_
  refine x_iaddN rfl ?_
  refine x_sld (j := 6 * j + 2) rfl (rfl) (by omega) (by omega) ?_
  refine x_callV (M' := mi263) (As := [_, _]) (bc1 := 0) (bs1 := 0) (bc2 := 3 * m) (bs2 := 1000 * m) rfl rfl rfl rfl ok263 rfl rfl (by decide) rfl rfl rfl rfl (by omega) (by omega) ?_
  refine h2.conseq (fun r2 lay2 VI2 VL2 VR2 hh => ?_)
  obtain ⟨rfl, hI⟩ := hh
  refine x_icmp_eq rfl (fun c961 => ?_) (fun c961 => ?_)
  rotate_left
  · exact absurd rfl c961
  refine x_iincN (q := 6) (ls' := [_, _, _, _]) rfl rfl rfl rfl ?_
  refine x_goto rfl ?_
  exact ih _ _ _ _ hI
set_option maxRecDepth 20000 in
theorem law_28 {j m : Nat} {ext : HL} {VI : VIT} {VL : VLT} {VR : VRT} {I : HL → VIT → VLT → VRT → Prop} (hL : L ≤ 3072) (hj : 6 * j + 6 ≤ L) (h : Call D 28 [xs (6 * j + 1), xs (6 * j + 2), xs (6 * j + 3), xs (6 * j + 4), xs (6 * j + 5)] (LY ++ ext) VI VL VR I) (ih : ∀ lay VI VL VR, I lay VI VL VR → ExS (Scr L xs) (D + 1) mi999 18 [.float 0, .ref 0, .ref 74, .int (nI (6 * (j + 1)))] [] lay VI VL VR (3 * m) (1000 * m) one) : ExS (Scr L xs) (D + 1) mi999 966 [.float 0, .ref 0, .ref 74, .int (nI (6 * j))] [] (LY ++ ext) VI VL VR (3 * (m + 1)) (1000 * (m + 1)) one := by
  refine x_aload_n rfl rfl ?_
  refine x_aload_nF0 rfl rfl ?_
  refine x_iload_n rfl rfl ?_
  refine x_iconstN (q := 1) rfl ?_
  refine x_iaddN rfl ?_
  refine x_sld (j := 6 * j + 1) rfl (rfl) (by omega) (by omega) ?_
  refine x_aload_nF0 rfl rfl ?_
  refine x_iload_n rfl rfl ?_
  refine x_iconstN (q := 2) rfl ?_
  refine x_iaddN rfl ?_
  refine x_sld (j := 6 * j + 2) rfl (rfl) (by omega) (by omega) ?_
  refine x_callV (M' := mi137) (As := [_, _]) (bc1 := 3) (bs1 := 1000) (bc2 := 3 * m) (bs2 := 1000 * m) rfl rfl rfl rfl ok137 rfl rfl (by decide) rfl rfl rfl rfl (by omega) (by omega) ?_
  refine h.conseq (fun r lay1 VI1 VL1 VR1 hh => ?_)
  obtain ⟨a, ext1, rfl, rfl, h2⟩ := hh
  refine x_aload_n rfl rfl ?_
  refine x_aload_nF0 rfl rfl ?_
  refine x_iload_n rfl rfl ?_
  refine x_iconstN (q := 1) rfl ?_
  refine x_iaddN rfl ?_
  refine x_sld (j := 6 * j + 1) rfl (rfl) (by omega) (by omega) ?_
  refine x_aload_nF0 rfl rfl ?_
  refine x_iload_n rfl rfl ?_
  refine x_iconstN (q := 2) rfl ?_
  refine x_iaddN rfl ?_
  refine x_sld (j := 6 * j + 2) rfl (rfl) (by omega) (by omega) ?_
  refine x_callV (M' := mi264) (As := [_, _]) (bc1 := 0) (bs1 := 0) (bc2 := 3 * m) (bs2 := 1000 * m) rfl rfl rfl rfl ok264 rfl rfl (by decide) rfl rfl rfl rfl (by omega) (by omega) ?_
  refine h2.conseq (fun r2 lay2 VI2 VL2 VR2 hh => ?_)
  obtain ⟨rfl, hI⟩ := hh
  refine x_icmp_eq rfl (fun c994 => ?_) (fun c994 => ?_)
  rotate_left
  · exact absurd rfl c994
  refine x_iincN (q := 6) (ls' := [_, _, _, _]) rfl rfl rfl rfl ?_
  refine x_goto rfl ?_
  exact ih _ _ _ _ hI
set_option maxRecDepth 20000 in
theorem law_29 {j m : Nat} {ext : HL} {VI : VIT} {VL : VLT} {VR : VRT} {I : HL → VIT → VLT → VRT → Prop} (hL : L ≤ 3072) (hj : 6 * j + 6 ≤ L) (h : Call D 29 [xs (6 * j + 1), xs (6 * j + 2), xs (6 * j + 3), xs (6 * j + 4), xs (6 * j + 5)] (LY ++ ext) VI VL VR I) (ih : ∀ lay VI VL VR, I lay VI VL VR → ExS (Scr L xs) (D + 1) mi999 18 [.float 0, .ref 0, .ref 74, .int (nI (6 * (j + 1)))] [] lay VI VL VR (3 * m) (1000 * m) one) : ExS (Scr L xs) (D + 1) mi999 999 [.float 0, .ref 0, .ref 74, .int (nI (6 * j))] [] (LY ++ ext) VI VL VR (3 * (m + 1)) (1000 * (m + 1)) one := by
  refine x_aload_n rfl rfl ?_
  refine x_aload_nF0 rfl rfl ?_
  refine x_iload_n rfl rfl ?_
  refine x_iconstN (q := 1) rfl ?_
  refine x_iaddN rfl ?_
  refine x_sld (j := 6 * j + 1) rfl (rfl) (by omega) (by omega) ?_
  refine x_aload_nF0 rfl rfl ?_
  refine x_iload_n rfl rfl ?_
  refine x_iconstN (q := 2) rfl ?_
  refine x_iaddN rfl ?_
  refine x_sld (j := 6 * j + 2) rfl (rfl) (by omega) (by omega) ?_
  refine x_callV (M' := mi138) (As := [_, _]) (bc1 := 3) (bs1 := 1000) (bc2 := 3 * m) (bs2 := 1000 * m) rfl rfl rfl rfl ok138 rfl rfl (by decide) rfl rfl rfl rfl (by omega) (by omega) ?_
  refine h.conseq (fun r lay1 VI1 VL1 VR1 hh => ?_)
  obtain ⟨a, ext1, rfl, rfl, h2⟩ := hh
  refine x_aload_n rfl rfl ?_
  refine x_aload_nF0 rfl rfl ?_
  refine x_iload_n rfl rfl ?_
  refine x_iconstN (q := 1) rfl ?_
  refine x_iaddN rfl ?_
  refine x_sld (j := 6 * j + 1) rfl (rfl) (by omega) (by omega) ?_
  refine x_aload_nF0 rfl rfl ?_
  refine x_iload_n rfl rfl ?_
  refine x_iconstN (q := 2) rfl ?_
  refine x_iaddN rfl ?_
  refine x_sld (j := 6 * j + 2) rfl (rfl) (by omega) (by omega) ?_
  refine x_callV (M' := mi267) (As := [_, _]) (bc1 := 0) (bs1 := 0) (bc2 := 3 * m) (bs2 := 1000 * m) rfl rfl rfl rfl ok267 rfl rfl (by decide) rfl rfl rfl rfl (by omega) (by omega) ?_
  refine h2.conseq (fun r2 lay2 VI2 VL2 VR2 hh => ?_)
  obtain ⟨rfl, hI⟩ := hh
  refine x_icmp_eq rfl (fun c1027 => ?_) (fun c1027 => ?_)
  rotate_left
  · exact absurd rfl c1027
  refine x_iincN (q := 6) (ls' := [_, _, _, _]) rfl rfl rfl rfl ?_
  refine x_goto rfl ?_
  exact ih _ _ _ _ hI
set_option maxRecDepth 20000 in
theorem law_30 {j m : Nat} {ext : HL} {VI : VIT} {VL : VLT} {VR : VRT} {I : HL → VIT → VLT → VRT → Prop} (hL : L ≤ 3072) (hj : 6 * j + 6 ≤ L) (h : Call D 30 [xs (6 * j + 1), xs (6 * j + 2), xs (6 * j + 3), xs (6 * j + 4), xs (6 * j + 5)] (LY ++ ext) VI VL VR I) (ih : ∀ lay VI VL VR, I lay VI VL VR → ExS (Scr L xs) (D + 1) mi999 18 [.float 0, .ref 0, .ref 74, .int (nI (6 * (j + 1)))] [] lay VI VL VR (3 * m) (1000 * m) one) : ExS (Scr L xs) (D + 1) mi999 1032 [.float 0, .ref 0, .ref 74, .int (nI (6 * j))] [] (LY ++ ext) VI VL VR (3 * (m + 1)) (1000 * (m + 1)) one := by
  refine x_aload_n rfl rfl ?_
  refine x_aload_nF0 rfl rfl ?_
  refine x_iload_n rfl rfl ?_
  refine x_iconstN (q := 1) rfl ?_
  refine x_iaddN rfl ?_
  refine x_sld (j := 6 * j + 1) rfl (rfl) (by omega) (by omega) ?_
  refine x_aload_nF0 rfl rfl ?_
  refine x_iload_n rfl rfl ?_
  refine x_iconstN (q := 2) rfl ?_
  refine x_iaddN rfl ?_
  refine x_sld (j := 6 * j + 2) rfl (rfl) (by omega) (by omega) ?_
  refine x_callV (M' := mi139) (As := [_, _]) (bc1 := 3) (bs1 := 1000) (bc2 := 3 * m) (bs2 := 1000 * m) rfl rfl rfl rfl ok139 rfl rfl (by decide) rfl rfl rfl rfl (by omega) (by omega) ?_
  refine h.conseq (fun r lay1 VI1 VL1 VR1 hh => ?_)
  obtain ⟨a, ext1, rfl, rfl, h2⟩ := hh
  refine x_aload_n rfl rfl ?_
  refine x_aload_nF0 rfl rfl ?_
  refine x_iload_n rfl rfl ?_
  refine x_iconstN (q := 1) rfl ?_
  refine x_iaddN rfl ?_
  refine x_sld (j := 6 * j + 1) rfl (rfl) (by omega) (by omega) ?_
  refine x_aload_nF0 rfl rfl ?_
  refine x_iload_n rfl rfl ?_
  refine x_iconstN (q := 2) rfl ?_
  refine x_iaddN rfl ?_
  refine x_sld (j := 6 * j + 2) rfl (rfl) (by omega) (by omega) ?_
  refine x_callV (M' := mi275) (As := [_, _]) (bc1 := 0) (bs1 := 0) (bc2 := 3 * m) (bs2 := 1000 * m) rfl rfl rfl rfl ok275 rfl rfl (by decide) rfl rfl rfl rfl (by omega) (by omega) ?_
  refine h2.conseq (fun r2 lay2 VI2 VL2 VR2 hh => ?_)
  obtain ⟨rfl, hI⟩ := hh
  refine x_icmp_eq rfl (fun c1060 => ?_) (fun c1060 => ?_)
  rotate_left
  · exact absurd rfl c1060
  refine x_iincN (q := 6) (ls' := [_, _, _, _]) rfl rfl rfl rfl ?_
  refine x_goto rfl ?_
  exact ih _ _ _ _ hI
set_option maxRecDepth 20000 in
theorem law_31 {j m : Nat} {ext : HL} {VI : VIT} {VL : VLT} {VR : VRT} {I : HL → VIT → VLT → VRT → Prop} (hL : L ≤ 3072) (hj : 6 * j + 6 ≤ L) (h : Call D 31 [xs (6 * j + 1), xs (6 * j + 2), xs (6 * j + 3), xs (6 * j + 4), xs (6 * j + 5)] (LY ++ ext) VI VL VR I) (ih : ∀ lay VI VL VR, I lay VI VL VR → ExS (Scr L xs) (D + 1) mi999 18 [.float 0, .ref 0, .ref 74, .int (nI (6 * (j + 1)))] [] lay VI VL VR (3 * m) (1000 * m) one) : ExS (Scr L xs) (D + 1) mi999 1065 [.float 0, .ref 0, .ref 74, .int (nI (6 * j))] [] (LY ++ ext) VI VL VR (3 * (m + 1)) (1000 * (m + 1)) one := by
  refine x_aload_n rfl rfl ?_
  refine x_aload_nF0 rfl rfl ?_
  refine x_iload_n rfl rfl ?_
  refine x_iconstN (q := 1) rfl ?_
  refine x_iaddN rfl ?_
  refine x_sld (j := 6 * j + 1) rfl (rfl) (by omega) (by omega) ?_
  refine x_aload_nF0 rfl rfl ?_
  refine x_iload_n rfl rfl ?_
  refine x_iconstN (q := 2) rfl ?_
  refine x_iaddN rfl ?_
  refine x_sld (j := 6 * j + 2) rfl (rfl) (by omega) (by omega) ?_
  refine x_callV (M' := mi140) (As := [_, _]) (bc1 := 3) (bs1 := 1000) (bc2 := 3 * m) (bs2 := 1000 * m) rfl rfl rfl rfl ok140 rfl rfl (by decide) rfl rfl rfl rfl (by omega) (by omega) ?_
  refine h.conseq (fun r lay1 VI1 VL1 VR1 hh => ?_)
  obtain ⟨a, ext1, rfl, rfl, h2⟩ := hh
  refine x_aload_n rfl rfl ?_
  refine x_aload_nF0 rfl rfl ?_
  refine x_iload_n rfl rfl ?_
  refine x_iconstN (q := 1) rfl ?_
  refine x_iaddN rfl ?_
  refine x_sld (j := 6 * j + 1) rfl (rfl) (by omega) (by omega) ?_
  refine x_aload_nF0 rfl rfl ?_
  refine x_iload_n rfl rfl ?_
  refine x_iconstN (q := 2) rfl ?_
  refine x_iaddN rfl ?_
  refine x_sld (j := 6 * j + 2) rfl (rfl) (by omega) (by omega) ?_
  refine x_callV (M' := mi276) (As := [_, _]) (bc1 := 0) (bs1 := 0) (bc2 := 3 * m) (bs2 := 1000 * m) rfl rfl rfl rfl ok276 rfl rfl (by decide) rfl rfl rfl rfl (by omega) (by omega) ?_
  refine h2.conseq (fun r2 lay2 VI2 VL2 VR2 hh => ?_)
  obtain ⟨rfl, hI⟩ := hh
  refine x_icmp_eq rfl (fun c1093 => ?_) (fun c1093 => ?_)
  rotate_left
  · exact absurd rfl c1093
  refine x_iincN (q := 6) (ls' := [_, _, _, _]) rfl rfl rfl rfl ?_
  refine x_goto rfl ?_
  exact ih _ _ _ _ hI
set_option maxRecDepth 20000 in
theorem law_32 {j m : Nat} {ext : HL} {VI : VIT} {VL : VLT} {VR : VRT} {I : HL → VIT → VLT → VRT → Prop} (hL : L ≤ 3072) (hj : 6 * j + 6 ≤ L) (h : Call D 32 [xs (6 * j + 1), xs (6 * j + 2), xs (6 * j + 3), xs (6 * j + 4), xs (6 * j + 5)] (LY ++ ext) VI VL VR I) (ih : ∀ lay VI VL VR, I lay VI VL VR → ExS (Scr L xs) (D + 1) mi999 18 [.float 0, .ref 0, .ref 74, .int (nI (6 * (j + 1)))] [] lay VI VL VR (3 * m) (1000 * m) one) : ExS (Scr L xs) (D + 1) mi999 1098 [.float 0, .ref 0, .ref 74, .int (nI (6 * j))] [] (LY ++ ext) VI VL VR (3 * (m + 1)) (1000 * (m + 1)) one := by
  refine x_aload_n rfl rfl ?_
  refine x_aload_nF0 rfl rfl ?_
  refine x_iload_n rfl rfl ?_
  refine x_iconstN (q := 1) rfl ?_
  refine x_iaddN rfl ?_
  refine x_sld (j := 6 * j + 1) rfl (rfl) (by omega) (by omega) ?_
  refine x_callV (M' := mi141) (As := [_]) (bc1 := 3) (bs1 := 1000) (bc2 := 3 * m) (bs2 := 1000 * m) rfl rfl rfl rfl ok141 rfl rfl (by decide) rfl rfl rfl rfl (by omega) (by omega) ?_
  refine h.conseq (fun r lay1 VI1 VL1 VR1 hh => ?_)
  obtain ⟨a, ext1, rfl, rfl, h2⟩ := hh
  refine x_aload_n rfl rfl ?_
  refine x_aload_nF0 rfl rfl ?_
  refine x_iload_n rfl rfl ?_
  refine x_iconstN (q := 1) rfl ?_
  refine x_iaddN rfl ?_
  refine x_sld (j := 6 * j + 1) rfl (rfl) (by omega) (by omega) ?_
  refine x_callV (M' := mi162) (As := [_]) (bc1 := 0) (bs1 := 0) (bc2 := 3 * m) (bs2 := 1000 * m) rfl rfl rfl rfl ok162 rfl rfl (by decide) rfl rfl rfl rfl (by omega) (by omega) ?_
  refine h2.conseq (fun r2 lay2 VI2 VL2 VR2 hh => ?_)
  obtain ⟨rfl, hI⟩ := hh
  refine x_icmp_eq rfl (fun c1116 => ?_) (fun c1116 => ?_)
  rotate_left
  · exact absurd rfl c1116
  refine x_iincN (q := 6) (ls' := [_, _, _, _]) rfl rfl rfl rfl ?_
  refine x_goto rfl ?_
  exact ih _ _ _ _ hI
set_option maxRecDepth 20000 in
theorem law_33 {j m : Nat} {ext : HL} {VI : VIT} {VL : VLT} {VR : VRT} {I : HL → VIT → VLT → VRT → Prop} (hL : L ≤ 3072) (hj : 6 * j + 6 ≤ L) (h : Call D 33 [xs (6 * j + 1), xs (6 * j + 2), xs (6 * j + 3), xs (6 * j + 4), xs (6 * j + 5)] (LY ++ ext) VI VL VR I) (ih : ∀ lay VI VL VR, I lay VI VL VR → ExS (Scr L xs) (D + 1) mi999 18 [.float 0, .ref 0, .ref 74, .int (nI (6 * (j + 1)))] [] lay VI VL VR (3 * m) (1000 * m) one) : ExS (Scr L xs) (D + 1) mi999 1121 [.float 0, .ref 0, .ref 74, .int (nI (6 * j))] [] (LY ++ ext) VI VL VR (3 * (m + 1)) (1000 * (m + 1)) one := by
  refine x_aload_n rfl rfl ?_
  refine x_aload_nF0 rfl rfl ?_
  refine x_iload_n rfl rfl ?_
  refine x_iconstN (q := 1) rfl ?_
  refine x_iaddN rfl ?_
  refine x_sld (j := 6 * j + 1) rfl (rfl) (by omega) (by omega) ?_
  refine x_callV (M' := mi142) (As := [_]) (bc1 := 3) (bs1 := 1000) (bc2 := 3 * m) (bs2 := 1000 * m) rfl rfl rfl rfl ok142 rfl rfl (by decide) rfl rfl rfl rfl (by omega) (by omega) ?_
  refine h.conseq (fun r lay1 VI1 VL1 VR1 hh => ?_)
  obtain ⟨a, ext1, rfl, rfl, h2⟩ := hh
  refine x_aload_n rfl rfl ?_
  refine x_aload_nF0 rfl rfl ?_
  refine x_iload_n rfl rfl ?_
  refine x_iconstN (q := 1) rfl ?_
  refine x_iaddN rfl ?_
  refine x_sld (j := 6 * j + 1) rfl (rfl) (by omega) (by omega) ?_
  refine x_callV (M' := mi163) (As := [_]) (bc1 := 0) (bs1 := 0) (bc2 := 3 * m) (bs2 := 1000 * m) rfl rfl rfl rfl ok163 rfl rfl (by decide) rfl rfl rfl rfl (by omega) (by omega) ?_
  refine h2.conseq (fun r2 lay2 VI2 VL2 VR2 hh => ?_)
  obtain ⟨rfl, hI⟩ := hh
  refine x_icmp_eq rfl (fun c1139 => ?_) (fun c1139 => ?_)
  rotate_left
  · exact absurd rfl c1139
  refine x_iincN (q := 6) (ls' := [_, _, _, _]) rfl rfl rfl rfl ?_
  refine x_goto rfl ?_
  exact ih _ _ _ _ hI
set_option maxRecDepth 20000 in
theorem law_34 {j m : Nat} {ext : HL} {VI : VIT} {VL : VLT} {VR : VRT} {I : HL → VIT → VLT → VRT → Prop} (hL : L ≤ 3072) (hj : 6 * j + 6 ≤ L) (h : Call D 34 [xs (6 * j + 1), xs (6 * j + 2), xs (6 * j + 3), xs (6 * j + 4), xs (6 * j + 5)] (LY ++ ext) VI VL VR I) (ih : ∀ lay VI VL VR, I lay VI VL VR → ExS (Scr L xs) (D + 1) mi999 18 [.float 0, .ref 0, .ref 74, .int (nI (6 * (j + 1)))] [] lay VI VL VR (3 * m) (1000 * m) one) : ExS (Scr L xs) (D + 1) mi999 1144 [.float 0, .ref 0, .ref 74, .int (nI (6 * j))] [] (LY ++ ext) VI VL VR (3 * (m + 1)) (1000 * (m + 1)) one := by
  refine x_aload_n rfl rfl ?_
  refine x_aload_nF0 rfl rfl ?_
  refine x_iload_n rfl rfl ?_
  refine x_iconstN (q := 1) rfl ?_
  refine x_iaddN rfl ?_
  refine x_sld (j := 6 * j + 1) rfl (rfl) (by omega) (by omega) ?_
  refine x_callV (M' := mi143) (As := [_]) (bc1 := 3) (bs1 := 1000) (bc2 := 3 * m) (bs2 := 1000 * m) rfl rfl rfl rfl ok143 rfl rfl (by decide) rfl rfl rfl rfl (by omega) (by omega) ?_
  refine h.conseq (fun r lay1 VI1 VL1 VR1 hh => ?_)
  obtain ⟨a, ext1, rfl, rfl, h2⟩ := hh
  refine x_aload_n rfl rfl ?_
  refine x_aload_nF0 rfl rfl ?_
  refine x_iload_n rfl rfl ?_
  refine x_iconstN (q := 1) rfl ?_
  refine x_iaddN rfl ?_
  refine x_sld (j := 6 * j + 1) rfl (rfl) (by omega) (by omega) ?_
  refine x_callV (M' := mi278) (As := [_]) (bc1 := 0) (bs1 := 0) (bc2 := 3 * m) (bs2 := 1000 * m) rfl rfl rfl rfl ok278 rfl rfl (by decide) rfl rfl rfl rfl (by omega) (by omega) ?_
  refine h2.conseq (fun r2 lay2 VI2 VL2 VR2 hh => ?_)
  obtain ⟨rfl, hI⟩ := hh
  refine x_icmp_eq rfl (fun c1162 => ?_) (fun c1162 => ?_)
  rotate_left
  · exact absurd rfl c1162
  refine x_iincN (q := 6) (ls' := [_, _, _, _]) rfl rfl rfl rfl ?_
  refine x_goto rfl ?_
  exact ih _ _ _ _ hI
set_option maxRecDepth 20000 in
theorem law_35 {j m : Nat} {ext : HL} {VI : VIT} {VL : VLT} {VR : VRT} {I : HL → VIT → VLT → VRT → Prop} (hL : L ≤ 3072) (hj : 6 * j + 6 ≤ L) (h : Call D 35 [xs (6 * j + 1), xs (6 * j + 2), xs (6 * j + 3), xs (6 * j + 4), xs (6 * j + 5)] (LY ++ ext) VI VL VR I) (ih : ∀ lay VI VL VR, I lay VI VL VR → ExS (Scr L xs) (D + 1) mi999 18 [.float 0, .ref 0, .ref 74, .int (nI (6 * (j + 1)))] [] lay VI VL VR (3 * m) (1000 * m) one) : ExS (Scr L xs) (D + 1) mi999 1167 [.float 0, .ref 0, .ref 74, .int (nI (6 * j))] [] (LY ++ ext) VI VL VR (3 * (m + 1)) (1000 * (m + 1)) one := by
  refine x_aload_n rfl rfl ?_
  refine x_callV (M' := mi144) (As := []) (bc1 := 3) (bs1 := 1000) (bc2 := 3 * m) (bs2 := 1000 * m) rfl rfl rfl rfl ok144 rfl rfl (by decide) rfl rfl rfl rfl (by omega) (by omega) ?_
  refine h.conseq (fun r lay1 VI1 VL1 VR1 hh => ?_)
  obtain ⟨a, ext1, rfl, rfl, h2⟩ := hh
  refine x_aload_n rfl rfl ?_
  refine x_callV (M' := mi279) (As := []) (bc1 := 0) (bs1 := 0) (bc2 := 3 * m) (bs2 := 1000 * m) rfl rfl rfl rfl ok279 rfl rfl (by decide) rfl rfl rfl rfl (by omega) (by omega) ?_
  refine h2.conseq (fun r2 lay2 VI2 VL2 VR2 hh => ?_)
  obtain ⟨rfl, hI⟩ := hh
  refine x_icmp_eq rfl (fun c1175 => ?_) (fun c1175 => ?_)
  rotate_left
  · exact absurd rfl c1175
  refine x_iincN (q := 6) (ls' := [_, _, _, _]) rfl rfl rfl rfl ?_
  refine x_goto rfl ?_
  exact ih _ _ _ _ hI
theorem and63 (z : Int32) : ∃ q : Nat, q < 64 ∧ z &&& 63 = nI q := pk_andE z (m := 63) 6 rfl
set_option maxRecDepth 20000 in
set_option maxHeartbeats 4000000 in
theorem law_loop {Inv : Nat → HL → VIT → VLT → (VRT) → Prop} (hL : L ≤ 3072) (hlay : ∀ j lay VI VL VR, Inv j lay VI VL VR → ∃ ext, lay = LY ++ ext) (hskip : ∀ j lay VI VL VR, Inv j lay VI VL VR → Inv (j + 1) lay VI VL VR)
    (hstep : ∀ j lay VI VL VR, 6 * j + 6 ≤ L → Inv j lay VI VL VR → ∀ c, c < 36 → ∀ a : List Int32, a.length = 5 → Call D c a lay VI VL VR (Inv (j + 1))) :
    ∀ (m j : Nat) (lay : HL) (VI : VIT) (VL : VLT) (VR : VRT), L < 6 * (j + m) + 6 → j + m ≤ 512 → Inv j lay VI VL VR → ExS (Scr L xs) (D + 1) mi999 18 [.float 0, .ref 0, .ref 74, .int (nI (6 * j))] [] lay VI VL VR (3 * m) (1000 * m) one := by
  intro m
  induction m with
  | zero => intro j lay VI VL VR h1 h2 hI; exact law_end hL (by omega) (by omega)
  | succ m ih =>
    intro j lay VI VL VR h1 h2 hI
    by_cases hj : L < 6 * j + 6
    · exact law_end hL hj (by omega)
    · have hj : 6 * j + 6 ≤ L := by omega
      have hst := hstep j lay VI VL VR hj hI
      have hsk := hskip j lay VI VL VR hI
      obtain ⟨ext, rfl⟩ := hlay j lay VI VL VR hI
      have ih' : ∀ lay VI VL VR, Inv (j + 1) lay VI VL VR → ExS (Scr L xs) (D + 1) mi999 18 [.float 0, .ref 0, .ref 74, .int (nI (6 * (j + 1)))] [] lay VI VL VR (3 * m) (1000 * m) one := fun lay VI VL VR h => ih (j + 1) lay VI VL VR (by omega) (by omega) h
      have h24 : ¬ nI L - 6 < nI (6 * j) := by
        rw [Int32.lt_iff_toInt_lt, nI_toInt (by omega), show (nI L - 6 : Int32) = nI L - nI 6 from rfl, pk_sub_toInt (by omega) (by omega)]
        omega
      obtain ⟨q, hq, hz⟩ := and63 (xs (6 * j))
      have hcase : ∀ c, c < 36 → Call D c [xs (6 * j + 1), xs (6 * j + 2), xs (6 * j + 3), xs (6 * j + 4), xs (6 * j + 5)] (LY ++ ext) VI VL VR (Inv (j + 1)) := fun c hc => hst c hc _ rfl
      have hsw : ExS (Scr L xs) (D + 1) mi999 33 [.float 0, .ref 0, .ref 74, .int (nI (6 * j))] [.int (nI q)] (LY ++ ext) VI VL VR (3 * (m + 1)) (1000 * (m + 1)) one := by
        by_cases h36 : 36 ≤ q
        · refine x_swOut (tgt := 1180) rfl (Or.inr (by rw [nI_toInt (by omega)]; omega)) (by decide) ?_
          refine ExS.budget (bc := 3 * m) (bs := 1000 * m) ?_ (by omega) (by omega)
          refine x_iincN (q := 6) (ls' := [_, _, _, _]) rfl rfl rfl rfl ?_
          refine x_goto rfl ?_
          exact ih' _ _ _ _ hsk
        · match q, h36 with
          | 0, _ => exact x_swIn (tgt := 192) rfl (by decide) (by decide) rfl (by decide) (law_0 hL hj (hcase 0 (by decide)) ih')
          | 1, _ => exact x_swIn (tgt := 235) rfl (by decide) (by decide) rfl (by decide) (law_1 hL hj (hcase 1 (by decide)) ih')
          | 2, _ => exact x_swIn (tgt := 268) rfl (by decide) (by decide) rfl (by decide) (law_2 hL hj (hcase 2 (by decide)) ih')
          | 3, _ => exact x_swIn (tgt := 301) rfl (by decide) (by decide) rfl (by decide) (law_3 hL hj (hcase 3 (by decide)) ih')
          | 4, _ => exact x_swIn (tgt := 334) rfl (by decide) (by decide) rfl (by decide) (law_4 hL hj (hcase 4 (by decide)) ih')
          | 5, _ => exact x_swIn (tgt := 367) rfl (by decide) (by decide) rfl (by decide) (law_5 hL hj (hcase 5 (by decide)) ih')
          | 6, _ => exact x_swIn (tgt := 430) rfl (by decide) (by decide) rfl (by decide) (law_6 hL hj (hcase 6 (by decide)) ih')
          | 7, _ => exact x_swIn (tgt := 453) rfl (by decide) (by decide) rfl (by decide) (law_7 hL hj (hcase 7 (by decide)) ih')
          | 8, _ => exact x_swIn (tgt := 466) rfl (by decide) (by decide) rfl (by decide) (law_8 hL hj (hcase 8 (by decide)) ih')
          | 9, _ => exact x_swIn (tgt := 479) rfl (by decide) (by decide) rfl (by decide) (law_9 hL hj (hcase 9 (by decide)) ih')
          | 10, _ => exact x_swIn (tgt := 492) rfl (by decide) (by decide) rfl (by decide) (law_10 hL hj (hcase 10 (by decide)) ih')
          | 11, _ => exact x_swIn (tgt := 505) rfl (by decide) (by decide) rfl (by decide) (law_11 hL hj (hcase 11 (by decide)) ih')
          | 12, _ => exact x_swIn (tgt := 518) rfl (by decide) (by decide) rfl (by decide) (law_12 hL hj (hcase 12 (by decide)) ih')
          | 13, _ => exact x_swIn (tgt := 531) rfl (by decide) (by decide) rfl (by decide) (law_13 hL hj (hcase 13 (by decide)) ih')
          | 14, _ => exact x_swIn (tgt := 554) rfl (by decide) (by decide) rfl (by decide) (law_14 hL hj (hcase 14 (by decide)) ih')
          | 15, _ => exact x_swIn (tgt := 607) rfl (by decide) (by decide) rfl (by decide) (law_15 hL hj (hcase 15 (by decide)) ih')
          | 16, _ => exact x_swIn (tgt := 650) rfl (by decide) (by decide) rfl (by decide) (law_16 hL hj (hcase 16 (by decide)) ih')
          | 17, _ => exact x_swIn (tgt := 673) rfl (by decide) (by decide) rfl (by decide) (law_17 hL hj (hcase 17 (by decide)) ih')
          | 18, _ => exact x_swIn (tgt := 696) rfl (by decide) (by decide) rfl (by decide) (law_18 hL hj (hcase 18 (by decide)) ih')
          | 19, _ => exact x_swIn (tgt := 709) rfl (by decide) (by decide) rfl (by decide) (law_19 hL hj (hcase 19 (by decide)) ih')
          | 20, _ => exact x_swIn (tgt := 722) rfl (by decide) (by decide) rfl (by decide) (law_20 hL hj (hcase 20 (by decide)) ih')
          | 21, _ => exact x_swIn (tgt := 755) rfl (by decide) (by decide) rfl (by decide) (law_21 hL hj (hcase 21 (by decide)) ih')
          | 22, _ => exact x_swIn (tgt := 778) rfl (by decide) (by decide) rfl (by decide) (law_22 hL hj (hcase 22 (by decide)) ih')
          | 23, _ => exact x_swIn (tgt := 811) rfl (by decide) (by decide) rfl (by decide) (law_23 hL hj (hcase 23 (by decide)) ih')
          | 24, _ => exact x_swIn (tgt := 834) rfl (by decide) (by decide) rfl (by decide) (law_24 hL hj (hcase 24 (by decide)) ih')
          | 25, _ => exact x_swIn (tgt := 877) rfl (by decide) (by decide) rfl (by decide) (law_25 hL hj (hcase 25 (by decide)) ih')
          | 26, _ => exact x_swIn (tgt := 890) rfl (by decide) (by decide) rfl (by decide) (law_26 hL hj (hcase 26 (by decide)) ih')
          | 27, _ => exact x_swIn (tgt := 933) rfl (by decide) (by decide) rfl (by decide) (law_27 hL hj (hcase 27 (by decide)) ih')
          | 28, _ => exact x_swIn (tgt := 966) rfl (by decide) (by decide) rfl (by decide) (law_28 hL hj (hcase 28 (by decide)) ih')
          | 29, _ => exact x_swIn (tgt := 999) rfl (by decide) (by decide) rfl (by decide) (law_29 hL hj (hcase 29 (by decide)) ih')
          | 30, _ => exact x_swIn (tgt := 1032) rfl (by decide) (by decide) rfl (by decide) (law_30 hL hj (hcase 30 (by decide)) ih')
          | 31, _ => exact x_swIn (tgt := 1065) rfl (by decide) (by decide) rfl (by decide) (law_31 hL hj (hcase 31 (by decide)) ih')
          | 32, _ => exact x_swIn (tgt := 1098) rfl (by decide) (by decide) rfl (by decide) (law_32 hL hj (hcase 32 (by decide)) ih')
          | 33, _ => exact x_swIn (tgt := 1121) rfl (by decide) (by decide) rfl (by decide) (law_33 hL hj (hcase 33 (by decide)) ih')
          | 34, _ => exact x_swIn (tgt := 1144) rfl (by decide) (by decide) rfl (by decide) (law_34 hL hj (hcase 34 (by decide)) ih')
          | 35, _ => exact x_swIn (tgt := 1167) rfl (by decide) (by decide) rfl (by decide) (law_35 hL hj (hcase 35 (by decide)) ih')
          | q + 36, h36 => omega
      refine x_iload_n rfl rfl ?_
      refine x_aload_nF0 rfl rfl ?_
      refine x_slen rfl ?_
      refine x_bipush rfl ?_
      refine x_isub rfl ?_
      refine x_icmp_gt rfl (fun c24 => ?_) (fun c24 => ?_)
      · exact absurd c24 h24
      refine x_aload_nF0 rfl rfl ?_
      refine x_iload_n rfl rfl ?_
      refine x_sld (j := 6 * j) rfl (rfl) (by omega) (by omega) ?_
      refine x_bipush rfl ?_
      refine x_iand rfl ?_
      rw [hz]; exact hsw
end Law
