theorem HR.push {base : Nat} {sa : SA} {dA : Nat → ClassId} {D : va_G} {lay : HL} {VI VI' : VIT} {VL VL' : VLT} {VR VR' : VRT} {H H1 : Heap} {z : (Nat × Nat) ⊕ Nat} (hH : HR base sa dA D lay VI VL VR H) (h : ∀ b, b ≠ lay.length → VI' b = VI b ∧ VL' b = VL b ∧ VR' b = VR b) (e2 : H1.size = H.size + 1) (e3 : ∀ q : Nat, q < H.size → H1[q]? = H[q]?) (he : va_at D cls (base + lay.length, cE base sa dA VI' VL' VR' lay.length z) H1) : HR base sa dA D (lay ++ [z]) VI' VL' VR' H1 := by
  refine ⟨by rw [e2, hH.1, List.length_append]; rfl, fun b q hq => ?_⟩
  obtain ⟨t, ht, rfl⟩ := wsC_inv hq
  by_cases hb : b < lay.length
  · rw [List.getElem?_append_left hb] at ht
    have hk := hH.2 b _ (wsC_at ht)
    rw [cE_cong (h b (by omega)).1 (h b (by omega)).2.1 (h b (by omega)).2.2]
    exact hk.kept (e3 _ hk.lt)
  · rw [List.getElem?_append_right (by omega)] at ht
    have hz : b - lay.length < 1 := (List.getElem?_eq_some_iff.mp ht).1
    have hb2 : b = lay.length := by omega
    subst hb2
    rw [Nat.sub_self] at ht
    cases ht
    exact he
theorem S_push {base : Nat} {H0 H H1 : Heap} {locs : List Loc} (h : va_S (fun q => base ≤ q) H0 H locs) (hz : base ≤ H0.size) (e2 : H1.size = H.size + 1) (e3 : ∀ q : Nat, q < H.size → H1[q]? = H[q]?) : va_S (fun q => base ≤ q) H0 H1 locs :=
  ⟨Nat.le_trans h.1 (by omega), fun q g1 g2 => (e3 q (Nat.lt_of_lt_of_le g1 h.1)).trans (h.2.1 q g1 g2), h.2.2⟩
def dvs (ty : FieldType) : Value := match ty with
  | .object _ => .null
  | .array _ => .null
  | .long => .long 0
  | _ => .int 0
theorem dv_all : ∀ ci, ci < 13 → ∀ k, k < cnf ci → defaultValue (cty ci k) = dvs (cty ci k) := by decide +kernel
theorem in_clk {ow i x y : Nat} (h : clk.elem (ow, i, x, y) = true) : (ow, i, x, y) ∈ clk := List.elem_iff.mp h
section XN
variable {S : SPr} {d : Nat} {M : MI} {pc nx x y : Nat} {v : Int32} {w : Int64} {ls ls' st : List Value} {lay : HL} {VI : VIT} {VL : VLT} {VR : VRT} {bc bs bc' bs' : Nat} {P : Post}
theorem x_new {i N : Nat} (hc : lkp (mC M) pc = some (.new i, 3, nx, x, y, v, w)) (hN : cnf x = N) {n : Nat} (hn : lay.length = n) (hbc : bc = bc' + 1) (hbs : bs = bs' + N) (k : ExS S d M nx ls (.ref n :: st) (lay ++ [.inr x]) (uw VI n (fun _ => 0)) (uw VL n (fun _ => 0)) (uw VR n (fun _ => .null)) bc' bs' P) : ExS S d M pc ls st lay VI VL VR bc bs P := by
  intro p l e R s m args below meth c H locs cells slots base sa sv D dA lsC C hH hS hl h1 h2
  obtain ⟨g1, g2, g3⟩ := dec' C.2.2.2.2.2.2.2.2.2.2.2.1 hc
  subst g2
  simp only [insOK] at g3
  have hm := in_clk g3
  have q1 : x < 13 := clk_ok _ hm
  subst hN; subst hn
  have hts := C.2.2.2.2.2.1
  have hown := C.2.2.2.2.1
  have hin : ∀ w ∈ u_ws (cn x) (fT x) (cnf x), w ∈ gw := fun w hw => clW_gw x q1 w (List.mem_append_left _ hw)
  have hK := C.2.2.2.2.2.2.1.1
  have hcl := cls_at x q1
  have hKn := hK.1 x _ hcl
  refine W.newcK C.1 C.2.1 hown (hts _ (clk_gw _ hm)) (hts _ (clW_gw x q1 _ (List.mem_append_right _ List.mem_cons_self))) (hts _ (ini_all x q1)) rfl g1 (by omega) (by omega) hKn.2.1 rfl fun H1 kC hkC e1 z1 o1 => ?_
  have e0 : H.size = base + lay.length := hH.1
  refine Eq.mp (by rw [e0]; rfl) (k p l e R s m args below meth c H1 locs (cells + 1) (slots + cnf x) base sa sv D dA lsC C (hH.push (fun b hb => ⟨uw_ne hb, uw_ne hb, uw_ne hb⟩) z1 o1 ?_) (S_push hS C.2.2.2.2.2.2.1.2.2 z1 o1) hl (by omega) (by omega))
  refine ⟨_, hcl, ?_⟩
  rw [← e0]
  refine (u_born (cty x) hts hin hKn hkC e1 (ty_all x q1)).to (fun j hj => ?_)
  show defaultValue (cty x j) = vp_V (fsC base sa _ _ _ _ x) j
  simp only [vp_V, List.getD_eq_getElem?_getD, fsC_at hj, Option.getD_some]
  rw [dv_all x q1 j hj]
  unfold fv dvs
  cases cty x j <;> simp [uw, mv]
theorem x_newi (hc : lkp (mC M) pc = some (.newarray .int, 2, nx, x, y, v, w)) {j : Int32} {N n : Nat} (hN : j.toNatClampNeg = N) (hj : ¬ j < 0) (hle : N * 8 ≤ 536870912) (hn : lay.length = n) (hbc : bc = bc' + 1) (hbs : bs = bs' + N) (k : ExS S d M nx ls (.ref n :: st) (lay ++ [.inl (0, N)]) (uw VI n (fun _ => 0)) (uw VL n (fun _ => 0)) (uw VR n (fun _ => .null)) bc' bs' P) : ExS S d M pc ls (.int j :: st) lay VI VL VR bc bs P := by
  intro p l e R s m args below meth c H locs cells slots base sa sv D dA lsC C hH hS hl h1 h2
  obtain ⟨g1, g2, g3⟩ := dec' C.2.2.2.2.2.2.2.2.2.2.2.1 hc
  subst g2
  subst hN; subst hn
  have hts := C.2.2.2.2.2.1
  have hK := C.2.2.2.2.2.2.1.1
  refine va_newaK (atype := .int) C.1 C.2.1 (hts _ ac_int) rfl g1 rfl hj rfl (by show _ * componentBytes .int ≤ _; simp only [componentBytes]; omega) (by omega) (by omega) rfl fun H1 cA e1 z1 o1 hA hfc => ?_
  have e0 : H.size = base + lay.length := hH.1
  have hcA : cA = dA 0 := Option.some.inj (hfc.symm.trans (hK.2 0 _ rfl).2)
  subst hcA
  refine Eq.mp (by rw [e0]; rfl) (k p l e R s m args below meth c H1 locs (cells + 1) (slots + j.toNatClampNeg) base sa sv D dA lsC C (hH.push (fun b hb => ⟨uw_ne hb, uw_ne hb, uw_ne hb⟩) z1 o1 ?_) (S_push hS C.2.2.2.2.2.2.1.2.2 z1 o1) hl (by omega) (by omega))
  show H1[base + lay.length]? = some (vp_cell (dA 0) (j.toNatClampNeg, aC base _ _ _ _ 0))
  rw [← e0, e1]
  simp [aC, uw]
  rfl
theorem x_newb (hc : lkp (mC M) pc = some (.newarray .byte, 2, nx, x, y, v, w)) {j : Int32} {N n : Nat} (hN : j.toNatClampNeg = N) (hj : ¬ j < 0) (hle : N * 8 ≤ 536870912) (hn : lay.length = n) (hbc : bc = bc' + 1) (hbs : bs = bs' + N) (k : ExS S d M nx ls (.ref n :: st) (lay ++ [.inl (1, N)]) (uw VI n (fun _ => 0)) (uw VL n (fun _ => 0)) (uw VR n (fun _ => .null)) bc' bs' P) : ExS S d M pc ls (.int j :: st) lay VI VL VR bc bs P := by
  intro p l e R s m args below meth c H locs cells slots base sa sv D dA lsC C hH hS hl h1 h2
  obtain ⟨g1, g2, g3⟩ := dec' C.2.2.2.2.2.2.2.2.2.2.2.1 hc
  subst g2
  subst hN; subst hn
  have hts := C.2.2.2.2.2.1
  have hK := C.2.2.2.2.2.2.1.1
  refine va_newaK (atype := .byte) C.1 C.2.1 (hts _ ac_byte) rfl g1 rfl hj rfl (by show _ * componentBytes .byte ≤ _; simp only [componentBytes]; omega) (by omega) (by omega) rfl fun H1 cA e1 z1 o1 hA hfc => ?_
  have e0 : H.size = base + lay.length := hH.1
  have hcA : cA = dA 1 := Option.some.inj (hfc.symm.trans (hK.2 1 _ rfl).2)
  subst hcA
  refine Eq.mp (by rw [e0]; rfl) (k p l e R s m args below meth c H1 locs (cells + 1) (slots + j.toNatClampNeg) base sa sv D dA lsC C (hH.push (fun b hb => ⟨uw_ne hb, uw_ne hb, uw_ne hb⟩) z1 o1 ?_) (S_push hS C.2.2.2.2.2.2.1.2.2 z1 o1) hl (by omega) (by omega))
  show H1[base + lay.length]? = some (vp_cell (dA 1) (j.toNatClampNeg, aC base _ _ _ _ 1))
  rw [← e0, e1]
  simp [aC, uw]
  rfl
theorem x_newz (hc : lkp (mC M) pc = some (.newarray .boolean, 2, nx, x, y, v, w)) {j : Int32} {N n : Nat} (hN : j.toNatClampNeg = N) (hj : ¬ j < 0) (hle : N * 8 ≤ 536870912) (hn : lay.length = n) (hbc : bc = bc' + 1) (hbs : bs = bs' + N) (k : ExS S d M nx ls (.ref n :: st) (lay ++ [.inl (2, N)]) (uw VI n (fun _ => 0)) (uw VL n (fun _ => 0)) (uw VR n (fun _ => .null)) bc' bs' P) : ExS S d M pc ls (.int j :: st) lay VI VL VR bc bs P := by
  intro p l e R s m args below meth c H locs cells slots base sa sv D dA lsC C hH hS hl h1 h2
  obtain ⟨g1, g2, g3⟩ := dec' C.2.2.2.2.2.2.2.2.2.2.2.1 hc
  subst g2
  subst hN; subst hn
  have hts := C.2.2.2.2.2.1
  have hK := C.2.2.2.2.2.2.1.1
  refine va_newaK (atype := .boolean) C.1 C.2.1 (hts _ ac_boolean) rfl g1 rfl hj rfl (by show _ * componentBytes .boolean ≤ _; simp only [componentBytes]; omega) (by omega) (by omega) rfl fun H1 cA e1 z1 o1 hA hfc => ?_
  have e0 : H.size = base + lay.length := hH.1
  have hcA : cA = dA 2 := Option.some.inj (hfc.symm.trans (hK.2 2 _ rfl).2)
  subst hcA
  refine Eq.mp (by rw [e0]; rfl) (k p l e R s m args below meth c H1 locs (cells + 1) (slots + j.toNatClampNeg) base sa sv D dA lsC C (hH.push (fun b hb => ⟨uw_ne hb, uw_ne hb, uw_ne hb⟩) z1 o1 ?_) (S_push hS C.2.2.2.2.2.2.1.2.2 z1 o1) hl (by omega) (by omega))
  show H1[base + lay.length]? = some (vp_cell (dA 2) (j.toNatClampNeg, aC base _ _ _ _ 2))
  rw [← e0, e1]
  simp [aC, uw]
  rfl
theorem x_newl (hc : lkp (mC M) pc = some (.newarray .long, 2, nx, x, y, v, w)) {j : Int32} {N n : Nat} (hN : j.toNatClampNeg = N) (hj : ¬ j < 0) (hle : N * 8 ≤ 536870912) (hn : lay.length = n) (hbc : bc = bc' + 1) (hbs : bs = bs' + N) (k : ExS S d M nx ls (.ref n :: st) (lay ++ [.inl (3, N)]) (uw VI n (fun _ => 0)) (uw VL n (fun _ => 0)) (uw VR n (fun _ => .null)) bc' bs' P) : ExS S d M pc ls (.int j :: st) lay VI VL VR bc bs P := by
  intro p l e R s m args below meth c H locs cells slots base sa sv D dA lsC C hH hS hl h1 h2
  obtain ⟨g1, g2, g3⟩ := dec' C.2.2.2.2.2.2.2.2.2.2.2.1 hc
  subst g2
  subst hN; subst hn
  have hts := C.2.2.2.2.2.1
  have hK := C.2.2.2.2.2.2.1.1
  refine va_newaK (atype := .long) C.1 C.2.1 (hts _ ac_long) rfl g1 rfl hj rfl (by show _ * componentBytes .long ≤ _; simp only [componentBytes]; omega) (by omega) (by omega) rfl fun H1 cA e1 z1 o1 hA hfc => ?_
  have e0 : H.size = base + lay.length := hH.1
  have hcA : cA = dA 3 := Option.some.inj (hfc.symm.trans (hK.2 3 _ rfl).2)
  subst hcA
  refine Eq.mp (by rw [e0]; rfl) (k p l e R s m args below meth c H1 locs (cells + 1) (slots + j.toNatClampNeg) base sa sv D dA lsC C (hH.push (fun b hb => ⟨uw_ne hb, uw_ne hb, uw_ne hb⟩) z1 o1 ?_) (S_push hS C.2.2.2.2.2.2.1.2.2 z1 o1) hl (by omega) (by omega))
  show H1[base + lay.length]? = some (vp_cell (dA 3) (j.toNatClampNeg, aC base _ _ _ _ 3))
  rw [← e0, e1]
  simp [aC, uw]
  rfl
theorem x_anew4 {i : Nat} (hc : lkp (mC M) pc = some (.anewarray i, 3, nx, 4, y, v, w)) {j : Int32} {N n : Nat} (hN : j.toNatClampNeg = N) (hj : ¬ j < 0) (hle : N * 8 ≤ 536870912) (hn : lay.length = n) (hbc : bc = bc' + 1) (hbs : bs = bs' + N) (k : ExS S d M nx ls (.ref n :: st) (lay ++ [.inl (4, N)]) (uw VI n (fun _ => 0)) (uw VL n (fun _ => 0)) (uw VR n (fun _ => .null)) bc' bs' P) : ExS S d M pc ls (.int j :: st) lay VI VL VR bc bs P := by
  intro p l e R s m args below meth c H locs cells slots base sa sv D dA lsC C hH hS hl h1 h2
  obtain ⟨g1, g2, g3⟩ := dec' C.2.2.2.2.2.2.2.2.2.2.2.1 hc
  subst g2
  subst hN; subst hn
  have hm : (mO M, i, 10, 1) ∈ clk := by
    have g4 := g3
    simp only [insOK] at g4
    exact in_clk (by simpa using g4)
  have hts := C.2.2.2.2.2.1
  have hK := C.2.2.2.2.2.2.1.1
  refine W.anew C.1 C.2.1 C.2.2.2.2.1 (hts _ (clk_gw _ hm)) (va_AO.use C.2.2.2.2.2.2.1.2.1.2.2.2.2.1) rfl g1 rfl hj (by omega) (by omega) (by omega) fun cA kA comp f1 f2 f3 f4 => ?_
  generalize hH1 : H.push ({ cls := cA, slots := Array.replicate j.toNatClampNeg .null, vm := .none } : Cell) = H1
  have z1 : H1.size = H.size + 1 := by rw [← hH1, Array.size_push]
  have e1 : H1[H.size]? = some (arrV cA j.toNatClampNeg (fun _ => .null)) := by rw [← hH1, Array.getElem?_push_size, ← arrV_new]
  have o1 : ∀ q : Nat, q < H.size → H1[q]? = H[q]? := fun q hq => by rw [← hH1, Array.getElem?_push, if_neg (Nat.ne_of_lt hq)]
  have e0 : H.size = base + lay.length := hH.1
  obtain ⟨-, -, -, -, -, r4⟩ := (hK.2 4 _ rfl).2
  have hcA : cA = dA 4 := Option.some.inj (f1.symm.trans r4)
  subst hcA
  refine Eq.mp (by rw [e0]; rfl) (k p l e R s m args below meth c H1 locs (cells + 1) (slots + j.toNatClampNeg) base sa sv D dA lsC C (hH.push (fun b hb => ⟨uw_ne hb, uw_ne hb, uw_ne hb⟩) z1 o1 ?_) (S_push hS C.2.2.2.2.2.2.1.2.2 z1 o1) hl (by omega) (by omega))
  show H1[base + lay.length]? = some (vp_cell (dA 4) (j.toNatClampNeg, aC base _ _ _ _ 4))
  rw [← e0, e1]
  simp [aC, uw, rfo]
  rfl
theorem x_anew5 {i : Nat} (hc : lkp (mC M) pc = some (.anewarray i, 3, nx, 5, y, v, w)) {j : Int32} {N n : Nat} (hN : j.toNatClampNeg = N) (hj : ¬ j < 0) (hle : N * 8 ≤ 536870912) (hn : lay.length = n) (hbc : bc = bc' + 1) (hbs : bs = bs' + N) (k : ExS S d M nx ls (.ref n :: st) (lay ++ [.inl (5, N)]) (uw VI n (fun _ => 0)) (uw VL n (fun _ => 0)) (uw VR n (fun _ => .null)) bc' bs' P) : ExS S d M pc ls (.int j :: st) lay VI VL VR bc bs P := by
  intro p l e R s m args below meth c H locs cells slots base sa sv D dA lsC C hH hS hl h1 h2
  obtain ⟨g1, g2, g3⟩ := dec' C.2.2.2.2.2.2.2.2.2.2.2.1 hc
  subst g2
  subst hN; subst hn
  have hm : (mO M, i, 9, 1) ∈ clk := by
    have g4 := g3
    simp only [insOK] at g4
    exact in_clk (by simpa using g4)
  have hts := C.2.2.2.2.2.1
  have hK := C.2.2.2.2.2.2.1.1
  refine W.anew C.1 C.2.1 C.2.2.2.2.1 (hts _ (clk_gw _ hm)) (va_AO.use C.2.2.2.2.2.2.1.2.1.2.2.2.2.2.1) rfl g1 rfl hj (by omega) (by omega) (by omega) fun cA kA comp f1 f2 f3 f4 => ?_
  generalize hH1 : H.push ({ cls := cA, slots := Array.replicate j.toNatClampNeg .null, vm := .none } : Cell) = H1
  have z1 : H1.size = H.size + 1 := by rw [← hH1, Array.size_push]
  have e1 : H1[H.size]? = some (arrV cA j.toNatClampNeg (fun _ => .null)) := by rw [← hH1, Array.getElem?_push_size, ← arrV_new]
  have o1 : ∀ q : Nat, q < H.size → H1[q]? = H[q]? := fun q hq => by rw [← hH1, Array.getElem?_push, if_neg (Nat.ne_of_lt hq)]
  have e0 : H.size = base + lay.length := hH.1
  obtain ⟨-, -, -, -, -, r4⟩ := (hK.2 5 _ rfl).2
  have hcA : cA = dA 5 := Option.some.inj (f1.symm.trans r4)
  subst hcA
  refine Eq.mp (by rw [e0]; rfl) (k p l e R s m args below meth c H1 locs (cells + 1) (slots + j.toNatClampNeg) base sa sv D dA lsC C (hH.push (fun b hb => ⟨uw_ne hb, uw_ne hb, uw_ne hb⟩) z1 o1 ?_) (S_push hS C.2.2.2.2.2.2.1.2.2 z1 o1) hl (by omega) (by omega))
  show H1[base + lay.length]? = some (vp_cell (dA 5) (j.toNatClampNeg, aC base _ _ _ _ 5))
  rw [← e0, e1]
  simp [aC, uw, rfo]
  rfl
theorem x_ldc {i : Nat} (hc : lkp (mC M) pc = some (.ldc i, 2, nx, 0, y, v, w)) (k : ExS S d M nx ls (.int v :: st) lay VI VL VR bc bs P) : ExS S d M pc ls st lay VI VL VR bc bs P := by
  intro p l e R s m args below meth c H locs cells slots base sa sv D dA lsC C hH hS hl h1 h2
  obtain ⟨g1, g2, g3⟩ := dec' C.2.2.2.2.2.2.2.2.2.2.2.1 hc
  subst g2
  have hm : (mO M, i, v) ∈ cts := by
    have g4 := g3
    simp only [insOK] at g4
    exact List.elem_iff.mp (by simpa using g4)
  exact lv_ldc C.1 C.2.1 C.2.2.2.2.1 (C.2.2.2.2.2.1 _ (cts_gw _ hm)) g1 (k p l e R s m args below meth c H locs cells slots base sa sv D dA lsC C hH hS hl h1 h2)
theorem x_ldc_w {i : Nat} (hc : lkp (mC M) pc = some (.ldc_w i, 3, nx, x, y, v, w)) (k : ExS S d M nx ls (.int v :: st) lay VI VL VR bc bs P) : ExS S d M pc ls st lay VI VL VR bc bs P := by
  intro p l e R s m args below meth c H locs cells slots base sa sv D dA lsC C hH hS hl h1 h2
  obtain ⟨g1, g2, g3⟩ := dec' C.2.2.2.2.2.2.2.2.2.2.2.1 hc
  subst g2
  have hm : (mO M, i, v) ∈ cts := List.elem_iff.mp g3
  exact lv_ldcw C.1 C.2.1 C.2.2.2.2.1 (C.2.2.2.2.2.1 _ (cts_gw _ hm)) g1 (k p l e R s m args below meth c H locs cells slots base sa sv D dA lsC C hH hS hl h1 h2)
theorem x_ldc2 {i : Nat} (hc : lkp (mC M) pc = some (.ldc2_w i, 3, nx, x, y, v, w)) (k : ExS S d M nx ls (.long w :: st) lay VI VL VR bc bs P) : ExS S d M pc ls st lay VI VL VR bc bs P := by
  intro p l e R s m args below meth c H locs cells slots base sa sv D dA lsC C hH hS hl h1 h2
  obtain ⟨g1, g2, g3⟩ := dec' C.2.2.2.2.2.2.2.2.2.2.2.1 hc
  subst g2
  have hm : (mO M, i, w) ∈ ctls := List.elem_iff.mp g3
  exact lv_ldc2 C.1 C.2.1 C.2.2.2.2.1 (C.2.2.2.2.2.1 _ (ctls_gw _ hm)) g1 (k p l e R s m args below meth c H locs cells slots base sa sv D dA lsC C hH hS hl h1 h2)
theorem x_swOut {df lo hi : Int} {offs : Array Int} {len tgt : Nat} (hc : lkp (mC M) pc = some (.tableswitch df lo hi offs, len, nx, x, y, v, w)) {a : Int32} (h : a.toInt < lo ∨ hi < a.toInt) (ht : (pc : Int) + df = (tgt : Int)) (k : ExS S d M tgt ls st lay VI VL VR bc bs P) : ExS S d M pc ls (.int a :: st) lay VI VL VR bc bs P := by
  intro p l e R s m args below meth c H locs cells slots base sa sv D dA lsC C hH hS hl h1 h2
  obtain ⟨g1, g2, g3⟩ := dec' C.2.2.2.2.2.2.2.2.2.2.2.1 hc
  subst g2
  exact lv_tableOut C.1 C.2.1 g1 h ht (k p l e R s m args below meth c H locs cells slots base sa sv D dA lsC C hH hS hl h1 h2)
theorem x_swIn {df lo hi off : Int} {offs : Array Int} {len tgt : Nat} (hc : lkp (mC M) pc = some (.tableswitch df lo hi offs, len, nx, x, y, v, w)) {a : Int32} (hx1 : ¬ a.toInt < lo) (hx2 : ¬ hi < a.toInt) (ho : offs[(a.toInt - lo).toNat]? = some off) (ht : (pc : Int) + off = (tgt : Int)) (k : ExS S d M tgt ls st lay VI VL VR bc bs P) : ExS S d M pc ls (.int a :: st) lay VI VL VR bc bs P := by
  intro p l e R s m args below meth c H locs cells slots base sa sv D dA lsC C hH hS hl h1 h2
  obtain ⟨g1, g2, g3⟩ := dec' C.2.2.2.2.2.2.2.2.2.2.2.1 hc
  subst g2
  exact lv_tableIn C.1 C.2.1 g1 hx1 hx2 ho ht (k p l e R s m args below meth c H locs cells slots base sa sv D dA lsC C hH hS hl h1 h2)
theorem S_free {base : Nat} {H0 H : Heap} {locs : List Loc} (h : va_S (fun q => base ≤ q) H0 H locs) : ∀ q ∈ locs, (fun q => base ≤ q) q.base := h.2.2
theorem x_iret (hc : lkp (mC M) pc = some (.ireturn, 1, nx, x, y, v, w)) (hr : mR M = some .int) {a : Int32} (hP : P (some (.int a)) lay VI VL VR) : ExS S d M pc ls [.int a] lay VI VL VR bc bs P := by
  intro p l e R s m args below meth c H locs cells slots base sa sv D dA lsC C hH hS hl h1 h2
  obtain ⟨g1, g2, g3⟩ := dec' C.2.2.2.2.2.2.2.2.2.2.2.1 hc
  subst g2
  exact W.widen (by omega) (by omega) (W.iret C.1 C.2.1 (C.2.2.1.trans hr) (fun t ht hW => ⟨⟨some (.int a), lay, VI, VL, VR, rfl, hP, by rw [ht]; exact hH⟩, hS.F ht⟩) (S_free hS) g1 C.2.2.2.2.2.2.2.1)
theorem x_zret (hc : lkp (mC M) pc = some (.ireturn, 1, nx, x, y, v, w)) (hr : mR M = some .boolean) {a : Int32} (ha : a = 0 ∨ a = 1) (hP : P (some (.int a)) lay VI VL VR) : ExS S d M pc ls [.int a] lay VI VL VR bc bs P := by
  intro p l e R s m args below meth c H locs cells slots base sa sv D dA lsC C hH hS hl h1 h2
  obtain ⟨g1, g2, g3⟩ := dec' C.2.2.2.2.2.2.2.2.2.2.2.1 hc
  subst g2
  exact W.widen (by omega) (by omega) (W.zret C.1 C.2.1 (C.2.2.1.trans hr) (by rcases ha with rfl | rfl <;> rfl) (fun t ht hW => ⟨⟨some (.int a), lay, VI, VL, VR, rfl, hP, by rw [ht]; exact hH⟩, hS.F ht⟩) (S_free hS) g1 C.2.2.2.2.2.2.2.1)
theorem x_lret (hc : lkp (mC M) pc = some (.lreturn, 1, nx, x, y, v, w)) (hr : mR M = some .long) {a : Int64} (hP : P (some (.long a)) lay VI VL VR) : ExS S d M pc ls [.long a] lay VI VL VR bc bs P := by
  intro p l e R s m args below meth c H locs cells slots base sa sv D dA lsC C hH hS hl h1 h2
  obtain ⟨g1, g2, g3⟩ := dec' C.2.2.2.2.2.2.2.2.2.2.2.1 hc
  subst g2
  exact W.widen (by omega) (by omega) (W.lret C.1 C.2.1 (C.2.2.1.trans hr) (fun t ht hW => ⟨⟨some (.long a), lay, VI, VL, VR, rfl, hP, by rw [ht]; exact hH⟩, hS.F ht⟩) (S_free hS) g1 C.2.2.2.2.2.2.2.1)
theorem x_vret (hc : lkp (mC M) pc = some (.return_, 1, nx, x, y, v, w)) (hr : mR M = none) (hP : P none lay VI VL VR) : ExS S d M pc ls [] lay VI VL VR bc bs P := by
  intro p l e R s m args below meth c H locs cells slots base sa sv D dA lsC C hH hS hl h1 h2
  obtain ⟨g1, g2, g3⟩ := dec' C.2.2.2.2.2.2.2.2.2.2.2.1 hc
  subst g2
  exact W.widen (by omega) (by omega) (W.vret C.1 C.2.1 (C.2.2.1.trans hr) (fun t ht hW => ⟨⟨none, lay, VI, VL, VR, rfl, hP, by rw [ht]; exact hH⟩, hS.F ht⟩) (S_free hS) g1 C.2.2.2.2.2.2.2.1)
theorem x_aret (hc : lkp (mC M) pc = some (.areturn, 1, nx, x, y, v, w)) {n : String} (hr : mR M = some (.object n)) {a : Value} (ha : a = .null ∨ ∃ b, a = .ref b) (hP : P (some a) lay VI VL VR) : ExS S d M pc ls [a] lay VI VL VR bc bs P := by
  intro p l e R s m args below meth c H locs cells slots base sa sv D dA lsC C hH hS hl h1 h2
  obtain ⟨g1, g2, g3⟩ := dec' C.2.2.2.2.2.2.2.2.2.2.2.1 hc
  subst g2
  refine W.widen (by omega) (by omega) (W.aret C.1 C.2.1 (C.2.2.1.trans hr) (Or.inl ⟨n, rfl⟩) ?_ (fun t ht hW => ⟨⟨some a, lay, VI, VL, VR, rfl, hP, by rw [ht]; exact hH⟩, hS.F ht⟩) (S_free hS) g1 C.2.2.2.2.2.2.2.1)
  rcases ha with rfl | ⟨b, rfl⟩
  · exact Or.inl rfl
  · exact Or.inr ⟨_, rfl⟩
end XN
