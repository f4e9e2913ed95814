def up {α : Type} (f : Nat → Nat → α) (a k : Nat) (x : α) : Nat → Nat → α := fun b => if b = a then (fun j => if j = k then x else f b j) else f b
def uw {α : Type} (f : Nat → Nat → α) (a : Nat) (g : Nat → α) : Nat → Nat → α := fun b => if b = a then g else f b
theorem up_ne {α : Type} {f : Nat → Nat → α} {a k b : Nat} {x : α} (h : b ≠ a) : up f a k x b = f b := by simp [up, h]
theorem uw_ne {α : Type} {f : Nat → Nat → α} {a b : Nat} {g : Nat → α} (h : b ≠ a) : uw f a g b = f b := by simp [uw, h]
theorem uw_same {α : Type} {f : Nat → Nat → α} {a : Nat} {g : Nat → α} : uw f a g a = g := by simp [uw]
def intTy : FieldType → Bool
  | .object _ => false
  | .array _ => false
  | .long => false
  | _ => true
def refTy : FieldType → Bool
  | .object _ => true
  | .array _ => true
  | _ => false
theorem fv_int {VI : VIT} {VL : VLT} {VR : VRT} {a ci k : Nat} (h : intTy (cty ci k) = true) : fv VI VL VR a ci k = .int (VI a k) := by
  unfold fv; revert h; cases cty ci k <;> simp [intTy]
theorem fv_ref {VI : VIT} {VL : VLT} {VR : VRT} {a ci k : Nat} (h : refTy (cty ci k) = true) : fv VI VL VR a ci k = VR a k := by
  unfold fv; revert h; cases cty ci k <;> simp [refTy]
theorem fv_cong {VI VI' : VIT} {VL VL' : VLT} {VR VR' : VRT} {a ci k : Nat} (h1 : VI' a k = VI a k) (h2 : VL' a k = VL a k) (h3 : VR' a k = VR a k) : fv VI' VL' VR' a ci k = fv VI VL VR a ci k := by
  unfold fv; cases cty ci k <;> simp [h1, h2, h3]
theorem cE_cong {base : Nat} {sa : SA} {dA : Nat → ClassId} {VI VI' : VIT} {VL VL' : VLT} {VR VR' : VRT} {b : Nat} (h1 : VI' b = VI b) (h2 : VL' b = VL b) (h3 : VR' b = VR b) (z : (Nat × Nat) ⊕ Nat) : cE base sa dA VI' VL' VR' b z = cE base sa dA VI VL VR b z := by
  cases z with
  | inl q => simp only [cE, aC, h1, h2, h3]
  | inr ci =>
    simp only [cE, fsC]
    congr 2
    exact List.map_congr_left fun k _ => by rw [fv_cong (congrFun h1 k) (congrFun h2 k) (congrFun h3 k)]
theorem wsC_set {base : Nat} {sa : SA} {dA : Nat → ClassId} {lay : HL} {VI VI' : VIT} {VL VL' : VLT} {VR VR' : VRT} {a : Nat} {z : (Nat × Nat) ⊕ Nat} (hz : lay[a]? = some z) (h : ∀ b, b ≠ a → VI' b = VI b ∧ VL' b = VL b ∧ VR' b = VR b) : wsC base sa dA lay VI' VL' VR' = (wsC base sa dA lay VI VL VR).set a (base + a, cE base sa dA VI' VL' VR' a z) := by
  apply List.ext_getElem?
  intro b
  by_cases hb : b = a
  · subst hb
    have hl : b < lay.length := (List.getElem?_eq_some_iff.mp hz).1
    rw [wsC_at hz, List.getElem?_set_self (by simp [wsC]; exact hl)]
  · rw [List.getElem?_set_ne (Ne.symm hb)]
    simp only [wsC, List.getElem?_mapIdx]
    cases lay[b]? with
    | none => rfl
    | some z => simp only [Option.map_some]; rw [cE_cong (h b hb).1 (h b hb).2.1 (h b hb).2.2]
theorem HR.put {base : Nat} {sa : SA} {dA : Nat → ClassId} {D : va_G} {lay : HL} {VI VI' : VIT} {VL VL' : VLT} {VR VR' : VRT} {H H1 : Heap} {a : Nat} {z : (Nat × Nat) ⊕ Nat} (hH : HR base sa dA D lay VI VL VR H) (hz : lay[a]? = some z) (h : ∀ b, b ≠ a → VI' b = VI b ∧ VL' b = VL b ∧ VR' b = VR b) (e2 : H1.size = H.size) (e3 : ∀ q : Nat, q ≠ base + a → H1[q]? = H[q]?) (he : va_at D cls (base + a, cE base sa dA VI' VL' VR' a z) H1) : HR base sa dA D lay VI' VL' VR' H1 :=
  ⟨e2.trans hH.1, by rw [wsC_set hz h]; exact hH.2.set (wsC_D base sa dA lay VI VL VR) (wsC_at hz) he e3⟩
theorem fsC_at {base : Nat} {sa : SA} {VI : VIT} {VL : VLT} {VR : VRT} {a ci k : Nat} (hk : k < cnf ci) : (fsC base sa VI VL VR a ci)[k]? = some (mv base sa (fv VI VL VR a ci k)) := by
  simp [fsC, hk]
theorem fsC_len {base : Nat} {sa : SA} {VI : VIT} {VL : VLT} {VR : VRT} {a ci : Nat} : (fsC base sa VI VL VR a ci).length = cnf ci := by simp [fsC]
theorem fsC_set {base : Nat} {sa : SA} {VI VI' : VIT} {VL VL' : VLT} {VR VR' : VRT} {a ci k : Nat} (hk : k < cnf ci) (h : ∀ j, j ≠ k → VI' a j = VI a j ∧ VL' a j = VL a j ∧ VR' a j = VR a j) : fsC base sa VI' VL' VR' a ci = (fsC base sa VI VL VR a ci).set k (mv base sa (fv VI' VL' VR' a ci k)) := by
  apply List.ext_getElem?
  intro j
  by_cases hj : j = k
  · subst hj
    rw [fsC_at hk, List.getElem?_set_self (by rw [fsC_len]; exact hk)]
  · rw [List.getElem?_set_ne (Ne.symm hj)]
    by_cases hl : j < cnf ci
    · rw [fsC_at hl, fsC_at hl, fv_cong (h j hj).1 (h j hj).2.1 (h j hj).2.2]
    · rw [List.getElem?_eq_none (by rw [fsC_len]; omega), List.getElem?_eq_none (by rw [fsC_len]; omega)]
theorem in_fls {ow i x y : Nat} (h : fls.elem (ow, i, x, y) = true) : (ow, i, x, y) ∈ fls := List.elem_iff.mp h
theorem in_flsG {ow i x y : Nat} (hx : x < 13) (h : (fls.elem (ow, i, x, y) || (x == 50 && ow == 16 && i == 9) || (x == 51 && ow == 16 && i == 15)) = true) : (ow, i, x, y) ∈ fls := by
  have e1 : (x == 50) = false := by simp; omega
  have e2 : (x == 51) = false := by simp; omega
  rw [e1, e2] at h
  simpa using h
section XF
variable {S : SPr} {d : Nat} {M : MI} {pc nx x y : Nat} {v : Int32} {w : Int64} {ls ls' st : List Value} {lay : HL} {VI : VIT} {VL : VLT} {VR : VRT} {bc bs : Nat} {P : Post}
theorem x_getG {i : Nat} (hc : lkp (mC M) pc = some (.getfield i, 3, nx, x, y, v, w)) {a : Nat} (hy : lay[a]? = some (.inr x)) (hx13 : x < 13) (k : ExS S d M nx ls (fv VI VL VR a x y :: st) lay VI VL VR bc bs P) : ExS S d M pc ls (.ref a :: st) lay VI VL VR bc bs P := by
  intro p l e R s m args below meth c H locs cells slots base sa sv D dA lsC C hH hS hl h1 h2
  obtain ⟨g1, g2, g3⟩ := dec' C.2.2.2.2.2.2.2.2.2.2.2.1 hc
  subst g2
  simp only [insOK] at g3
  have hm := in_flsG hx13 g3
  obtain ⟨q1, q2, q3⟩ := fls_ok _ hm
  exact va_get (Ts := gw) C.1 C.2.1 C.2.2.2.2.2.1 (fun w hw => clW_gw x q1 w (List.mem_append_left _ hw)) C.2.2.2.2.1 C.2.2.2.2.2.2.1.1 hH.2 a (wsC_at hy) (cls_at x q1) y q2 (C.2.2.2.2.2.1 _ (fls_gw _ hm)) (fun z hz => q3 ▸ hz) (fsC_at q2) g1 (k p l e R s m args below meth c H locs cells slots base sa sv D dA lsC C hH hS hl h1 h2)
theorem x_getI {i : Nat} (hc : lkp (mC M) pc = some (.getfield i, 3, nx, x, y, v, w)) {a : Nat} (hy : lay[a]? = some (.inr x)) (ht : intTy (cty x y) = true) (k : ExS S d M nx ls (.int (VI a y) :: st) lay VI VL VR bc bs P) (hx13 : x < 13 := by decide) : ExS S d M pc ls (.ref a :: st) lay VI VL VR bc bs P :=
  x_getG hc hy hx13 (by rw [fv_int ht]; exact k)
theorem x_getR {i : Nat} (hc : lkp (mC M) pc = some (.getfield i, 3, nx, x, y, v, w)) {a : Nat} {u : Value} (hy : lay[a]? = some (.inr x)) (ht : refTy (cty x y) = true) (hu : VR a y = u) (k : ExS S d M nx ls (u :: st) lay VI VL VR bc bs P) (hx13 : x < 13 := by decide) : ExS S d M pc ls (.ref a :: st) lay VI VL VR bc bs P :=
  x_getG hc hy hx13 (by rw [fv_ref ht, hu]; exact k)
theorem x_putG {i : Nat} (hc : lkp (mC M) pc = some (.putfield i, 3, nx, x, y, v, w)) {a : Nat} {u : Value} {VI' : VIT} {VL' : VLT} {VR' : VRT} (hy : lay[a]? = some (.inr x)) (hfin : (fT x y).2.2.2 = false ∨ ((fT x y).2.2.2 = true ∧ (mY M).name = "<init>" ∧ own (mO M) = cn x)) (hu : fv VI' VL' VR' a x y = u) (hn : ∀ (base : Nat) (sa : SA), narrow (cty x y) (mv base sa u) = mv base sa u ∧ fits (cty x y) (mv base sa u) = true)
    (ho : ∀ b, b ≠ a → VI' b = VI b ∧ VL' b = VL b ∧ VR' b = VR b) (hj : ∀ j, j ≠ y → VI' a j = VI a j ∧ VL' a j = VL a j ∧ VR' a j = VR a j) (k : ExS S d M nx ls st lay VI' VL' VR' bc bs P) : ExS S d M pc ls (u :: .ref a :: st) lay VI VL VR bc bs P := by
  intro p l e R s m args below meth c H locs cells slots base sa sv D dA lsC C hH hS hl h1 h2
  obtain ⟨g1, g2, g3⟩ := dec' C.2.2.2.2.2.2.2.2.2.2.2.1 hc
  subst g2
  simp only [insOK] at g3
  have hm := in_fls g3
  obtain ⟨q1, q2, q3⟩ := fls_ok _ hm
  have hts := C.2.2.2.2.2.1
  have hown := C.2.2.2.2.1
  have hin : ∀ w ∈ u_ws (cn x) (fT x) (cnf x), w ∈ gw := fun w hw => clW_gw x q1 w (List.mem_append_left _ hw)
  have hK := C.2.2.2.2.2.2.1.1
  have hcl := cls_at x q1
  have hap := va_apart (own := own (mO M)) hts hin (cty x) (ty_all x q1) (nm_all x q1) hK hcl
  obtain ⟨r, r1, cell, p1, p2, p3, p4⟩ := hH.2 a _ (wsC_at hy)
  have hr : r = (cn x, fT x, cnf x) := Option.some.inj (r1.symm.trans hcl)
  subst hr
  obtain ⟨hSl, hfc, kC, hkC, hkind⟩ := hK.1 x _ hcl
  obtain ⟨cf, kf, fi, f, hi, hsl⟩ := hSl y q2
  have hlay := hts _ (hin _ (u_in_lay q2))
  have hst := (u_facts hfc hkC (u_lays hts hin q2) hi).1
  have hlink := hts _ (fls_gw _ hm)
  have hd := ty_all x q1 y q2
  have fin : ∀ H' : Heap, H'[base + a]? = some (cell.setSlot f.slot (mv base sa u)) → H'.size = H.size → (∀ q : Nat, q ≠ base + a → H'[q]? = H[q]?) → W p l e R s m args below meth c H' (locs ++ [⟨base + a, f.slot⟩]) cells slots (MQ below (QP base sa D dA P) args s R.cells R.slots (fun q => base ≤ q)) (F0 m (pc + 3) lsC (st.map (mv base sa))) := by
    intro H' e1 e2 e3
    rw [hsl] at e1 ⊢
    refine k p l e R s m args below meth c H' _ cells slots base sa sv D dA lsC C (hH.put hy ho e2 e3 ?_) (hS.put e2 e3 (Nat.le_add_right _ _)) hl h1 h2
    refine ⟨_, hcl, ?_⟩
    show t_OB (base + a) _ _ _ H' (vp_V (fsC base sa VI' VL' VR' a x))
    rw [fsC_set q2 hj, hu]
    exact t_OB.to (V := updV (vp_V (fsC base sa VI VL VR a x)) y (mv base sa u)) ⟨_, e1, p2, p3, t_set p4 hap q2 _⟩ (fun j _ => vp_updV_set (by rw [fsC_len]; exact q2) _ j)
  rcases hfin with hf | ⟨hf, hin2, hdecl⟩
  · unfold u_lay at hlay
    rw [if_neg (by rw [hf]; decide)] at hlay
    have h6 := u_store hfc hkC hkind hlay hi hd (hn base sa).1 (hn base sa).2
    exact W.putK C.1 C.2.1 (f := f) ⟨hown, hlink, ⟨_, _, _, q3 ▸ hi⟩, hst⟩ (by rw [p2]; exact h6) p1 p3 (by rw [hsl]; exact k2_hasslot (p4 y q2)) rfl rfl g1 fin
  · unfold u_lay at hlay
    rw [if_pos hf] at hlay
    have hcf : m.cls = cf := by
      obtain ⟨_, _, c', _, _, _, -, -, hf', -, -, -, hown2, -⟩ := Cond.laysFinal_spec hlay
      have e1 : c' = cf := by have := hi.symm.trans hf'; simp at this; exact this.1.symm
      rw [q3, ← hdecl] at hown2
      rw [← e1]; exact Option.some.inj (hown.symm.trans hown2)
    have h6 := u_fits hfc hkC hkind (Or.inr hlay) hi hd (hn base sa).1 (hn base sa).2
    exact W.putFinK C.1 C.2.1 hown hlink (q3 ▸ hi) hst hcf (C.2.2.2.2.2.2.2.2.1.trans hin2) (by rw [p2]; exact h6) p1 p3 (by rw [hsl]; exact k2_hasslot (p4 y q2)) rfl rfl g1 fin
theorem x_putI {i : Nat} (hc : lkp (mC M) pc = some (.putfield i, 3, nx, x, y, v, w)) {a : Nat} {u : Int32} (hy : lay[a]? = some (.inr x)) (hfin : (fT x y).2.2.2 = false) (ht : cty x y = .int) (k : ExS S d M nx ls st lay (up VI a y u) VL VR bc bs P) : ExS S d M pc ls (.int u :: .ref a :: st) lay VI VL VR bc bs P :=
  x_putG hc hy (Or.inl hfin) (u := .int u) (by rw [fv_int (by rw [ht]; rfl)]; simp [up]) (fun _ _ => by rw [ht]; exact ⟨rfl, rfl⟩) (fun b hb => ⟨up_ne hb, rfl, rfl⟩) (fun j hj => ⟨by simp [up, hj], rfl, rfl⟩) k
theorem x_putZ {i : Nat} (hc : lkp (mC M) pc = some (.putfield i, 3, nx, x, y, v, w)) {a : Nat} {u : Int32} (hy : lay[a]? = some (.inr x)) (hfin : (fT x y).2.2.2 = false) (ht : cty x y = .boolean) (hu : u = 0 ∨ u = 1) (k : ExS S d M nx ls st lay (up VI a y u) VL VR bc bs P) : ExS S d M pc ls (.int u :: .ref a :: st) lay VI VL VR bc bs P :=
  x_putG hc hy (Or.inl hfin) (u := .int u) (by rw [fv_int (by rw [ht]; rfl)]; simp [up]) (fun _ _ => by rw [ht]; rcases hu with rfl | rfl <;> exact ⟨rfl, rfl⟩) (fun b hb => ⟨up_ne hb, rfl, rfl⟩) (fun j hj => ⟨by simp [up, hj], rfl, rfl⟩) k
theorem x_putR {i : Nat} (hc : lkp (mC M) pc = some (.putfield i, 3, nx, x, y, v, w)) {a b : Nat} (hy : lay[a]? = some (.inr x)) (hfin : (fT x y).2.2.2 = false ∨ ((fT x y).2.2.2 = true ∧ (mY M).name = "<init>" ∧ own (mO M) = cn x)) (ht : refTy (cty x y) = true) (k : ExS S d M nx ls st lay VI VL (up VR a y (.ref b)) bc bs P) : ExS S d M pc ls (.ref b :: .ref a :: st) lay VI VL VR bc bs P :=
  x_putG hc hy hfin (u := .ref b) (by rw [fv_ref ht]; simp [up]) (fun _ _ => by revert ht; cases cty x y <;> simp [refTy] <;> exact ⟨rfl, rfl⟩) (fun b hb => ⟨rfl, rfl, up_ne hb⟩) (fun j hj => ⟨rfl, rfl, by simp [up, hj]⟩) k
theorem x_iaload (hc : lkp (mC M) pc = some (.iaload, 1, nx, x, y, v, w)) {a n : Nat} {j : Int32} (hy : lay[a]? = some (.inl (0, n))) (hin : vp_in j n) (k : ExS S d M nx ls (.int (VI a j.toNatClampNeg) :: st) lay VI VL VR bc bs P) : ExS S d M pc ls (.int j :: .ref a :: st) lay VI VL VR bc bs P := by
  intro p l e R s m args below meth c H locs cells slots base sa sv D dA lsC C hH hS hl h1 h2
  obtain ⟨g1, g2, g3⟩ := dec' C.2.2.2.2.2.2.2.2.2.2.2.1 hc
  subst g2
  exact va_iald C.1 C.2.1 C.2.2.2.2.2.2.1.1 hH.2 a 0 (wsC_at hy) rfl hin g1 (k p l e R s m args below meth c H locs cells slots base sa sv D dA lsC C hH hS hl h1 h2)
theorem x_baload (hc : lkp (mC M) pc = some (.baload, 1, nx, x, y, v, w)) {a n : Nat} {j : Int32} (hy : lay[a]? = some (.inl (1, n))) (hin : vp_in j n) (k : ExS S d M nx ls (.int (VI a j.toNatClampNeg) :: st) lay VI VL VR bc bs P) : ExS S d M pc ls (.int j :: .ref a :: st) lay VI VL VR bc bs P := by
  intro p l e R s m args below meth c H locs cells slots base sa sv D dA lsC C hH hS hl h1 h2
  obtain ⟨g1, g2, g3⟩ := dec' C.2.2.2.2.2.2.2.2.2.2.2.1 hc
  subst g2
  exact va_bald C.1 C.2.1 C.2.2.2.2.2.2.1.1 hH.2 a 1 (wsC_at hy) rfl hin g1 (k p l e R s m args below meth c H locs cells slots base sa sv D dA lsC C hH hS hl h1 h2)
theorem x_zaload (hc : lkp (mC M) pc = some (.baload, 1, nx, x, y, v, w)) {a n : Nat} {j : Int32} (hy : lay[a]? = some (.inl (2, n))) (hin : vp_in j n) (k : ExS S d M nx ls (.int (VI a j.toNatClampNeg) :: st) lay VI VL VR bc bs P) : ExS S d M pc ls (.int j :: .ref a :: st) lay VI VL VR bc bs P := by
  intro p l e R s m args below meth c H locs cells slots base sa sv D dA lsC C hH hS hl h1 h2
  obtain ⟨g1, g2, g3⟩ := dec' C.2.2.2.2.2.2.2.2.2.2.2.1 hc
  subst g2
  exact va_zald C.1 C.2.1 C.2.2.2.2.2.2.1.1 hH.2 a 2 (wsC_at hy) rfl hin g1 (k p l e R s m args below meth c H locs cells slots base sa sv D dA lsC C hH hS hl h1 h2)
theorem x_laload (hc : lkp (mC M) pc = some (.laload, 1, nx, x, y, v, w)) {a n : Nat} {j : Int32} (hy : lay[a]? = some (.inl (3, n))) (hin : vp_in j n) (k : ExS S d M nx ls (.long (VL a j.toNatClampNeg) :: st) lay VI VL VR bc bs P) : ExS S d M pc ls (.int j :: .ref a :: st) lay VI VL VR bc bs P := by
  intro p l e R s m args below meth c H locs cells slots base sa sv D dA lsC C hH hS hl h1 h2
  obtain ⟨g1, g2, g3⟩ := dec' C.2.2.2.2.2.2.2.2.2.2.2.1 hc
  subst g2
  exact va_lald C.1 C.2.1 C.2.2.2.2.2.2.1.1 hH.2 a 3 (wsC_at hy) rfl hin g1 (k p l e R s m args below meth c H locs cells slots base sa sv D dA lsC C hH hS hl h1 h2)
theorem x_aaload4 (hc : lkp (mC M) pc = some (.aaload, 1, nx, x, y, v, w)) {a n b : Nat} {j : Int32} (hy : lay[a]? = some (.inl (4, n))) (hin : vp_in j n) (hu : VR a j.toNatClampNeg = .ref b) (k : ExS S d M nx ls (.ref b :: st) lay VI VL VR bc bs P) : ExS S d M pc ls (.int j :: .ref a :: st) lay VI VL VR bc bs P := by
  intro p l e R s m args below meth c H locs cells slots base sa sv D dA lsC C hH hS hl h1 h2
  obtain ⟨g1, g2, g3⟩ := dec' C.2.2.2.2.2.2.2.2.2.2.2.1 hc
  subst g2
  refine va_aldq C.1 C.2.1 C.2.2.2.2.2.2.1.1 hH.2 a 4 (wsC_at hy) rfl hin g1 ?_
  show W p l e R s m args below meth c H locs cells slots _ (F0 m (pc + 1) lsC (va_rf (rfo base (VR a j.toNatClampNeg)) :: _))
  rw [hu]
  exact (k p l e R s m args below meth c H locs cells slots base sa sv D dA lsC C hH hS hl h1 h2)
theorem x_aaload4N (hc : lkp (mC M) pc = some (.aaload, 1, nx, x, y, v, w)) {a n : Nat} {j : Int32} (hy : lay[a]? = some (.inl (4, n))) (hin : vp_in j n) (hu : VR a j.toNatClampNeg = .null) (k : ExS S d M nx ls (.null :: st) lay VI VL VR bc bs P) : ExS S d M pc ls (.int j :: .ref a :: st) lay VI VL VR bc bs P := by
  intro p l e R s m args below meth c H locs cells slots base sa sv D dA lsC C hH hS hl h1 h2
  obtain ⟨g1, g2, g3⟩ := dec' C.2.2.2.2.2.2.2.2.2.2.2.1 hc
  subst g2
  refine va_aldq C.1 C.2.1 C.2.2.2.2.2.2.1.1 hH.2 a 4 (wsC_at hy) rfl hin g1 ?_
  show W p l e R s m args below meth c H locs cells slots _ (F0 m (pc + 1) lsC (va_rf (rfo base (VR a j.toNatClampNeg)) :: _))
  rw [hu]
  exact (k p l e R s m args below meth c H locs cells slots base sa sv D dA lsC C hH hS hl h1 h2)
theorem x_aaload5 (hc : lkp (mC M) pc = some (.aaload, 1, nx, x, y, v, w)) {a n b : Nat} {j : Int32} (hy : lay[a]? = some (.inl (5, n))) (hin : vp_in j n) (hu : VR a j.toNatClampNeg = .ref b) (k : ExS S d M nx ls (.ref b :: st) lay VI VL VR bc bs P) : ExS S d M pc ls (.int j :: .ref a :: st) lay VI VL VR bc bs P := by
  intro p l e R s m args below meth c H locs cells slots base sa sv D dA lsC C hH hS hl h1 h2
  obtain ⟨g1, g2, g3⟩ := dec' C.2.2.2.2.2.2.2.2.2.2.2.1 hc
  subst g2
  refine va_aldq C.1 C.2.1 C.2.2.2.2.2.2.1.1 hH.2 a 5 (wsC_at hy) rfl hin g1 ?_
  show W p l e R s m args below meth c H locs cells slots _ (F0 m (pc + 1) lsC (va_rf (rfo base (VR a j.toNatClampNeg)) :: _))
  rw [hu]
  exact (k p l e R s m args below meth c H locs cells slots base sa sv D dA lsC C hH hS hl h1 h2)
theorem x_aaload5N (hc : lkp (mC M) pc = some (.aaload, 1, nx, x, y, v, w)) {a n : Nat} {j : Int32} (hy : lay[a]? = some (.inl (5, n))) (hin : vp_in j n) (hu : VR a j.toNatClampNeg = .null) (k : ExS S d M nx ls (.null :: st) lay VI VL VR bc bs P) : ExS S d M pc ls (.int j :: .ref a :: st) lay VI VL VR bc bs P := by
  intro p l e R s m args below meth c H locs cells slots base sa sv D dA lsC C hH hS hl h1 h2
  obtain ⟨g1, g2, g3⟩ := dec' C.2.2.2.2.2.2.2.2.2.2.2.1 hc
  subst g2
  refine va_aldq C.1 C.2.1 C.2.2.2.2.2.2.1.1 hH.2 a 5 (wsC_at hy) rfl hin g1 ?_
  show W p l e R s m args below meth c H locs cells slots _ (F0 m (pc + 1) lsC (va_rf (rfo base (VR a j.toNatClampNeg)) :: _))
  rw [hu]
  exact (k p l e R s m args below meth c H locs cells slots base sa sv D dA lsC C hH hS hl h1 h2)
theorem x_alen0 (hc : lkp (mC M) pc = some (.arraylength, 1, nx, x, y, v, w)) {a n : Nat} (hy : lay[a]? = some (.inl (0, n))) (k : ExS S d M nx ls (.int (Int32.ofNat n) :: st) lay VI VL VR bc bs P) : ExS S d M pc ls (.ref a :: st) lay VI VL VR bc bs P := by
  intro p l e R s m args below meth c H locs cells slots base sa sv D dA lsC C hH hS hl h1 h2
  obtain ⟨g1, g2, g3⟩ := dec' C.2.2.2.2.2.2.2.2.2.2.2.1 hc
  subst g2
  exact va_alen C.1 C.2.1 C.2.2.2.2.2.2.1.1 hH.2 a 0 (wsC_at hy) (ty := .int) rfl rfl g1 (k p l e R s m args below meth c H locs cells slots base sa sv D dA lsC C hH hS hl h1 h2)
theorem x_alen1 (hc : lkp (mC M) pc = some (.arraylength, 1, nx, x, y, v, w)) {a n : Nat} (hy : lay[a]? = some (.inl (1, n))) (k : ExS S d M nx ls (.int (Int32.ofNat n) :: st) lay VI VL VR bc bs P) : ExS S d M pc ls (.ref a :: st) lay VI VL VR bc bs P := by
  intro p l e R s m args below meth c H locs cells slots base sa sv D dA lsC C hH hS hl h1 h2
  obtain ⟨g1, g2, g3⟩ := dec' C.2.2.2.2.2.2.2.2.2.2.2.1 hc
  subst g2
  exact va_alen C.1 C.2.1 C.2.2.2.2.2.2.1.1 hH.2 a 1 (wsC_at hy) (ty := .byte) rfl rfl g1 (k p l e R s m args below meth c H locs cells slots base sa sv D dA lsC C hH hS hl h1 h2)
theorem x_alen2 (hc : lkp (mC M) pc = some (.arraylength, 1, nx, x, y, v, w)) {a n : Nat} (hy : lay[a]? = some (.inl (2, n))) (k : ExS S d M nx ls (.int (Int32.ofNat n) :: st) lay VI VL VR bc bs P) : ExS S d M pc ls (.ref a :: st) lay VI VL VR bc bs P := by
  intro p l e R s m args below meth c H locs cells slots base sa sv D dA lsC C hH hS hl h1 h2
  obtain ⟨g1, g2, g3⟩ := dec' C.2.2.2.2.2.2.2.2.2.2.2.1 hc
  subst g2
  exact va_alen C.1 C.2.1 C.2.2.2.2.2.2.1.1 hH.2 a 2 (wsC_at hy) (ty := .boolean) rfl rfl g1 (k p l e R s m args below meth c H locs cells slots base sa sv D dA lsC C hH hS hl h1 h2)
theorem x_alen3 (hc : lkp (mC M) pc = some (.arraylength, 1, nx, x, y, v, w)) {a n : Nat} (hy : lay[a]? = some (.inl (3, n))) (k : ExS S d M nx ls (.int (Int32.ofNat n) :: st) lay VI VL VR bc bs P) : ExS S d M pc ls (.ref a :: st) lay VI VL VR bc bs P := by
  intro p l e R s m args below meth c H locs cells slots base sa sv D dA lsC C hH hS hl h1 h2
  obtain ⟨g1, g2, g3⟩ := dec' C.2.2.2.2.2.2.2.2.2.2.2.1 hc
  subst g2
  exact va_alen C.1 C.2.1 C.2.2.2.2.2.2.1.1 hH.2 a 3 (wsC_at hy) (ty := .long) rfl rfl g1 (k p l e R s m args below meth c H locs cells slots base sa sv D dA lsC C hH hS hl h1 h2)
theorem x_alen4 (hc : lkp (mC M) pc = some (.arraylength, 1, nx, x, y, v, w)) {a n : Nat} (hy : lay[a]? = some (.inl (4, n))) (k : ExS S d M nx ls (.int (Int32.ofNat n) :: st) lay VI VL VR bc bs P) : ExS S d M pc ls (.ref a :: st) lay VI VL VR bc bs P := by
  intro p l e R s m args below meth c H locs cells slots base sa sv D dA lsC C hH hS hl h1 h2
  obtain ⟨g1, g2, g3⟩ := dec' C.2.2.2.2.2.2.2.2.2.2.2.1 hc
  subst g2
  exact va_alen C.1 C.2.1 C.2.2.2.2.2.2.1.1 hH.2 a 4 (wsC_at hy) (ty := .object RX10) rfl rfl g1 (k p l e R s m args below meth c H locs cells slots base sa sv D dA lsC C hH hS hl h1 h2)
theorem x_alen5 (hc : lkp (mC M) pc = some (.arraylength, 1, nx, x, y, v, w)) {a n : Nat} (hy : lay[a]? = some (.inl (5, n))) (k : ExS S d M nx ls (.int (Int32.ofNat n) :: st) lay VI VL VR bc bs P) : ExS S d M pc ls (.ref a :: st) lay VI VL VR bc bs P := by
  intro p l e R s m args below meth c H locs cells slots base sa sv D dA lsC C hH hS hl h1 h2
  obtain ⟨g1, g2, g3⟩ := dec' C.2.2.2.2.2.2.2.2.2.2.2.1 hc
  subst g2
  exact va_alen C.1 C.2.1 C.2.2.2.2.2.2.1.1 hH.2 a 5 (wsC_at hy) (ty := .object RX9) rfl rfl g1 (k p l e R s m args below meth c H locs cells slots base sa sv D dA lsC C hH hS hl h1 h2)
theorem cell_seti (cA : ClassId) (n k : Nat) (f : Nat → Int32) (z : Int32) : (vp_cell cA (n, .inl f)).setSlot k (.int z) = vp_cell cA (n, .inl (fun j => if j = k then z else f j)) := by
  rw [vp_cell_i, vp_cell_i, arrV_store]
  congr 1
  funext q
  by_cases hq : q = k <;> simp [updV, hq]
theorem cell_setl (cA : ClassId) (n k : Nat) (f : Nat → Int64) (z : Int64) : (vp_cell cA (n, .inr (.inl f))).setSlot k (.long z) = vp_cell cA (n, .inr (.inl (fun j => if j = k then z else f j))) := by
  rw [vp_cell_l, vp_cell_l, arrV_store]
  congr 1
  funext q
  by_cases hq : q = k <;> simp [updV, hq]
theorem cell_setq (cA : ClassId) (n k : Nat) (f : Nat → Option Nat) (z : Option Nat) : (vp_cell cA (n, .inr (.inr (.inr (.inr f))))).setSlot k (va_rf z) = vp_cell cA (n, .inr (.inr (.inr (.inr (fun j => if j = k then z else f j))))) := by
  rw [vp_cell_q, vp_cell_q, arrV_store]
  congr 1
  funext q
  by_cases hq : q = k <;> simp [updV, hq]
theorem x_iastore (hc : lkp (mC M) pc = some (.iastore, 1, nx, x, y, v, w)) {a n : Nat} {j u : Int32} (hy : lay[a]? = some (.inl (0, n))) (hin : vp_in j n) (k : ExS S d M nx ls st lay (up VI a j.toNatClampNeg u) VL VR bc bs P) : ExS S d M pc ls (.int u :: .int j :: .ref a :: st) lay VI VL VR bc bs P := by
  intro p l e R s m args below meth c H locs cells slots base sa sv D dA lsC C hH hS hl h1 h2
  obtain ⟨g1, g2, g3⟩ := dec' C.2.2.2.2.2.2.2.2.2.2.2.1 hc
  subst g2
  refine W.iast C.1 C.2.1 (hH.2 a _ (wsC_at hy)) ((C.2.2.2.2.2.2.1.1.2 0 _ rfl).1 n (fun j => .int (VI a j))) (fun q => by cases q) (by show ¬ (j < 0 ∨ (arrV _ _ _).slots.size ≤ _); rw [arrV_size]; exact hin) rfl rfl g1 fun H1 e1 e2 e3 => ?_
  refine k p l e R s m args below meth c H1 _ cells slots base sa sv D dA lsC C (hH.put hy (fun b hb => ⟨up_ne hb, rfl, rfl⟩) e2 e3 ?_) (hS.put e2 e3 (Nat.le_add_right _ _)) hl h1 h2
  show H1[base + a]? = some (vp_cell (dA 0) (n, .inl (up VI a j.toNatClampNeg u a)))
  rw [e1]
  refine (congrArg some (cell_seti (dA 0) n j.toNatClampNeg (VI a) u)).trans ?_
  simp [up]
theorem x_bastore (hc : lkp (mC M) pc = some (.bastore, 1, nx, x, y, v, w)) {a n : Nat} {j u : Int32} (hy : lay[a]? = some (.inl (1, n))) (hin : vp_in j n) (k : ExS S d M nx ls st lay (up VI a j.toNatClampNeg u.toInt8.toInt32) VL VR bc bs P) : ExS S d M pc ls (.int u :: .int j :: .ref a :: st) lay VI VL VR bc bs P := by
  intro p l e R s m args below meth c H locs cells slots base sa sv D dA lsC C hH hS hl h1 h2
  obtain ⟨g1, g2, g3⟩ := dec' C.2.2.2.2.2.2.2.2.2.2.2.1 hc
  subst g2
  refine W.bast C.1 C.2.1 (hH.2 a _ (wsC_at hy)) ((C.2.2.2.2.2.2.1.1.2 1 _ rfl).1 n (fun j => .int (VI a j))) (fun q => by cases q) (by show ¬ (j < 0 ∨ (arrV _ _ _).slots.size ≤ _); rw [arrV_size]; exact hin) rfl rfl g1 fun H1 e1 e2 e3 => ?_
  refine k p l e R s m args below meth c H1 _ cells slots base sa sv D dA lsC C (hH.put hy (fun b hb => ⟨up_ne hb, rfl, rfl⟩) e2 e3 ?_) (hS.put e2 e3 (Nat.le_add_right _ _)) hl h1 h2
  show H1[base + a]? = some (vp_cell (dA 1) (n, .inl (up VI a j.toNatClampNeg u.toInt8.toInt32 a)))
  rw [e1]
  refine (congrArg some (cell_seti (dA 1) n j.toNatClampNeg (VI a) u.toInt8.toInt32)).trans ?_
  simp [up]
theorem x_zastore (hc : lkp (mC M) pc = some (.bastore, 1, nx, x, y, v, w)) {a n : Nat} {j u : Int32} (hy : lay[a]? = some (.inl (2, n))) (hin : vp_in j n) (k : ExS S d M nx ls st lay (up VI a j.toNatClampNeg (vp_nar .boolean u)) VL VR bc bs P) : ExS S d M pc ls (.int u :: .int j :: .ref a :: st) lay VI VL VR bc bs P := by
  intro p l e R s m args below meth c H locs cells slots base sa sv D dA lsC C hH hS hl h1 h2
  obtain ⟨g1, g2, g3⟩ := dec' C.2.2.2.2.2.2.2.2.2.2.2.1 hc
  subst g2
  refine W.zast C.1 C.2.1 (hH.2 a _ (wsC_at hy)) ((C.2.2.2.2.2.2.1.1.2 2 _ rfl).1 n (fun j => .int (VI a j))) (fun q => by cases q) (by show ¬ (j < 0 ∨ (arrV _ _ _).slots.size ≤ _); rw [arrV_size]; exact hin) rfl rfl g1 fun H1 e1 e2 e3 => ?_
  refine k p l e R s m args below meth c H1 _ cells slots base sa sv D dA lsC C (hH.put hy (fun b hb => ⟨up_ne hb, rfl, rfl⟩) e2 e3 ?_) (hS.put e2 e3 (Nat.le_add_right _ _)) hl h1 h2
  show H1[base + a]? = some (vp_cell (dA 2) (n, .inl (up VI a j.toNatClampNeg (vp_nar .boolean u) a)))
  rw [e1]
  refine (congrArg some (cell_seti (dA 2) n j.toNatClampNeg (VI a) (vp_nar .boolean u))).trans ?_
  simp [up]
theorem x_lastore (hc : lkp (mC M) pc = some (.lastore, 1, nx, x, y, v, w)) {a n : Nat} {j : Int32} {u : Int64} (hy : lay[a]? = some (.inl (3, n))) (hin : vp_in j n) (k : ExS S d M nx ls st lay VI (up VL a j.toNatClampNeg u) VR bc bs P) : ExS S d M pc ls (.long u :: .int j :: .ref a :: st) lay VI VL VR bc bs P := by
  intro p l e R s m args below meth c H locs cells slots base sa sv D dA lsC C hH hS hl h1 h2
  obtain ⟨g1, g2, g3⟩ := dec' C.2.2.2.2.2.2.2.2.2.2.2.1 hc
  subst g2
  refine W.last C.1 C.2.1 (hH.2 a _ (wsC_at hy)) ((C.2.2.2.2.2.2.1.1.2 3 _ rfl).1 n (fun j => .long (VL a j))) (fun q => by cases q) (by show ¬ (j < 0 ∨ (arrV _ _ _).slots.size ≤ _); rw [arrV_size]; exact hin) rfl rfl g1 fun H1 e1 e2 e3 => ?_
  refine k p l e R s m args below meth c H1 _ cells slots base sa sv D dA lsC C (hH.put hy (fun b hb => ⟨rfl, up_ne hb, rfl⟩) e2 e3 ?_) (hS.put e2 e3 (Nat.le_add_right _ _)) hl h1 h2
  show H1[base + a]? = some (vp_cell (dA 3) (n, .inr (.inl (up VL a j.toNatClampNeg u a))))
  rw [e1]
  refine (congrArg some (cell_setl (dA 3) n j.toNatClampNeg (VL a) u)).trans ?_
  simp [up]
theorem x_aastore4 (hc : lkp (mC M) pc = some (.aastore, 1, nx, x, y, v, w)) {a n b : Nat} {j : Int32} (hy : lay[a]? = some (.inl (4, n))) (hb0 : lay[b]? = some (.inr 10)) (hin : vp_in j n) (k : ExS S d M nx ls st lay VI VL (up VR a j.toNatClampNeg (.ref b)) bc bs P) : ExS S d M pc ls (.ref b :: .int j :: .ref a :: st) lay VI VL VR bc bs P := by
  intro p l e R s m args below meth c H locs cells slots base sa sv D dA lsC C hH hS hl h1 h2
  obtain ⟨g1, g2, g3⟩ := dec' C.2.2.2.2.2.2.2.2.2.2.2.1 hc
  subst g2
  have hK := C.2.2.2.2.2.2.1.1
  have h0 : ¬ j < 0 := fun q => hin (Or.inl q)
  have hlt : j.toNatClampNeg < n := Nat.not_le.mp fun q => hin (Or.inr q)
  obtain ⟨r', hr', cellV, f1, f2, f3, -⟩ := hH.2 b _ (wsC_at hb0)
  have hcls := (hK.1 10 _ (cls_at 10 (by decide))).2
  obtain ⟨kA, comp, k1, k2, k3, -⟩ := (hK.2 4 _ rfl).2
  have hcomp : comp = D.1 10 := Option.some.inj (k3.symm.trans hcls.1)
  subst hcomp
  obtain ⟨kC, hkC, -⟩ := hcls.2
  refine W.aast C.1 C.2.1 (hH.2 a _ (wsC_at hy)) (fun q h => by cases h) (fun h => by cases h) k1 k2 rfl hkC ⟨h0, by show _ < (arrV _ _ _).slots.size; rw [arrV_size]; exact hlt⟩ f1 (fun q h => by rw [f3] at h; cases h) (by rw [f2]; exact hkC) (by rw [f2]; exact va_assign hcls) rfl rfl g1 fun H1 e1 e2 e3 => ?_
  refine k p l e R s m args below meth c H1 _ cells slots base sa sv D dA lsC C (hH.put hy (fun b hb => ⟨rfl, rfl, up_ne hb⟩) e2 e3 ?_) (hS.put e2 e3 (Nat.le_add_right _ _)) hl h1 h2
  show H1[base + a]? = some (vp_cell (dA 4) (n, .inr (.inr (.inr (.inr (fun i => rfo base (up VR a j.toNatClampNeg (.ref b) a i)))))))
  rw [e1]
  refine (congrArg some (cell_setq (dA 4) n j.toNatClampNeg (fun i => rfo base (VR a i)) (some (base + b)))).trans ?_
  congr 7
  funext i
  by_cases hi : i = j.toNatClampNeg <;> simp [up, hi, rfo]
theorem x_aastore4N (hc : lkp (mC M) pc = some (.aastore, 1, nx, x, y, v, w)) {a n : Nat} {j : Int32} (hy : lay[a]? = some (.inl (4, n))) (hin : vp_in j n) (k : ExS S d M nx ls st lay VI VL (up VR a j.toNatClampNeg .null) bc bs P) : ExS S d M pc ls (.null :: .int j :: .ref a :: st) lay VI VL VR bc bs P := by
  intro p l e R s m args below meth c H locs cells slots base sa sv D dA lsC C hH hS hl h1 h2
  obtain ⟨g1, g2, g3⟩ := dec' C.2.2.2.2.2.2.2.2.2.2.2.1 hc
  subst g2
  have hK := C.2.2.2.2.2.2.1.1
  refine va_WaastN (C := RX10) C.1 C.2.1 (hH.2 a _ (wsC_at hy)) ((hK.2 4 _ rfl).1 n (fun i => va_rf (rfo base (VR a i)))) (fun h => by cases h) (by show ¬ (j < 0 ∨ (arrV _ _ _).slots.size ≤ _); rw [arrV_size]; exact hin) rfl rfl g1 fun H1 e1 e2 e3 => ?_
  refine k p l e R s m args below meth c H1 _ cells slots base sa sv D dA lsC C (hH.put hy (fun b hb => ⟨rfl, rfl, up_ne hb⟩) e2 e3 ?_) (hS.put e2 e3 (Nat.le_add_right _ _)) hl h1 h2
  show H1[base + a]? = some (vp_cell (dA 4) (n, .inr (.inr (.inr (.inr (fun i => rfo base (up VR a j.toNatClampNeg .null a i)))))))
  rw [e1]
  refine (congrArg some (cell_setq (dA 4) n j.toNatClampNeg (fun i => rfo base (VR a i)) none)).trans ?_
  congr 7
  funext i
  by_cases hi : i = j.toNatClampNeg <;> simp [up, hi, rfo]
theorem x_aastore5 (hc : lkp (mC M) pc = some (.aastore, 1, nx, x, y, v, w)) {a n b : Nat} {j : Int32} (hy : lay[a]? = some (.inl (5, n))) (hb0 : lay[b]? = some (.inr 9)) (hin : vp_in j n) (k : ExS S d M nx ls st lay VI VL (up VR a j.toNatClampNeg (.ref b)) bc bs P) : ExS S d M pc ls (.ref b :: .int j :: .ref a :: st) lay VI VL VR bc bs P := by
  intro p l e R s m args below meth c H locs cells slots base sa sv D dA lsC C hH hS hl h1 h2
  obtain ⟨g1, g2, g3⟩ := dec' C.2.2.2.2.2.2.2.2.2.2.2.1 hc
  subst g2
  have hK := C.2.2.2.2.2.2.1.1
  have h0 : ¬ j < 0 := fun q => hin (Or.inl q)
  have hlt : j.toNatClampNeg < n := Nat.not_le.mp fun q => hin (Or.inr q)
  obtain ⟨r', hr', cellV, f1, f2, f3, -⟩ := hH.2 b _ (wsC_at hb0)
  have hcls := (hK.1 9 _ (cls_at 9 (by decide))).2
  obtain ⟨kA, comp, k1, k2, k3, -⟩ := (hK.2 5 _ rfl).2
  have hcomp : comp = D.1 9 := Option.some.inj (k3.symm.trans hcls.1)
  subst hcomp
  obtain ⟨kC, hkC, -⟩ := hcls.2
  refine W.aast C.1 C.2.1 (hH.2 a _ (wsC_at hy)) (fun q h => by cases h) (fun h => by cases h) k1 k2 rfl hkC ⟨h0, by show _ < (arrV _ _ _).slots.size; rw [arrV_size]; exact hlt⟩ f1 (fun q h => by rw [f3] at h; cases h) (by rw [f2]; exact hkC) (by rw [f2]; exact va_assign hcls) rfl rfl g1 fun H1 e1 e2 e3 => ?_
  refine k p l e R s m args below meth c H1 _ cells slots base sa sv D dA lsC C (hH.put hy (fun b hb => ⟨rfl, rfl, up_ne hb⟩) e2 e3 ?_) (hS.put e2 e3 (Nat.le_add_right _ _)) hl h1 h2
  show H1[base + a]? = some (vp_cell (dA 5) (n, .inr (.inr (.inr (.inr (fun i => rfo base (up VR a j.toNatClampNeg (.ref b) a i)))))))
  rw [e1]
  refine (congrArg some (cell_setq (dA 5) n j.toNatClampNeg (fun i => rfo base (VR a i)) (some (base + b)))).trans ?_
  congr 7
  funext i
  by_cases hi : i = j.toNatClampNeg <;> simp [up, hi, rfo]
theorem x_aastore5N (hc : lkp (mC M) pc = some (.aastore, 1, nx, x, y, v, w)) {a n : Nat} {j : Int32} (hy : lay[a]? = some (.inl (5, n))) (hin : vp_in j n) (k : ExS S d M nx ls st lay VI VL (up VR a j.toNatClampNeg .null) bc bs P) : ExS S d M pc ls (.null :: .int j :: .ref a :: st) lay VI VL VR bc bs P := by
  intro p l e R s m args below meth c H locs cells slots base sa sv D dA lsC C hH hS hl h1 h2
  obtain ⟨g1, g2, g3⟩ := dec' C.2.2.2.2.2.2.2.2.2.2.2.1 hc
  subst g2
  have hK := C.2.2.2.2.2.2.1.1
  refine va_WaastN (C := RX9) C.1 C.2.1 (hH.2 a _ (wsC_at hy)) ((hK.2 5 _ rfl).1 n (fun i => va_rf (rfo base (VR a i)))) (fun h => by cases h) (by show ¬ (j < 0 ∨ (arrV _ _ _).slots.size ≤ _); rw [arrV_size]; exact hin) rfl rfl g1 fun H1 e1 e2 e3 => ?_
  refine k p l e R s m args below meth c H1 _ cells slots base sa sv D dA lsC C (hH.put hy (fun b hb => ⟨rfl, rfl, up_ne hb⟩) e2 e3 ?_) (hS.put e2 e3 (Nat.le_add_right _ _)) hl h1 h2
  show H1[base + a]? = some (vp_cell (dA 5) (n, .inr (.inr (.inr (.inr (fun i => rfo base (up VR a j.toNatClampNeg .null a i)))))))
  rw [e1]
  refine (congrArg some (cell_setq (dA 5) n j.toNatClampNeg (fun i => rfo base (VR a i)) none)).trans ?_
  congr 7
  funext i
  by_cases hi : i = j.toNatClampNeg <;> simp [up, hi, rfo]
end XF
