def flA (As : List Value) : List Value := As.flatMap (fun v => if v.category = 2 then [v, .retAddr 8] else [v])
def entL (As : List Value) (n : Nat) : List Value := flA As ++ List.replicate (n - (flA As).length) (.retAddr 9)
theorem flA_len (base : Nat) (sa : SA) : ∀ As : List Value, (lg_sl (As.map (mv base sa))).length = (flA As).length
  | [] => rfl
  | a :: r => by
    have h := flA_len base sa r
    simp only [lg_sl, flA, List.map_cons, List.flatMap_cons, List.length_append, mv_cat] at h ⊢
    rw [h]
    by_cases hc : a.category = 2 <;> simp [hc]
theorem flA_at (base : Nat) (sa : SA) : ∀ (As : List Value) (i : Nat) (v : Value), (flA As)[i]? = some v → isRA v = false → (lg_sl (As.map (mv base sa)))[i]? = some (.val (mv base sa v))
  | [], i, v, h, _ => by simp [flA] at h
  | a :: r, i, v, h, hv => by
    have ih := flA_at base sa r
    simp only [flA, List.flatMap_cons] at h
    simp only [lg_sl, List.map_cons, List.flatMap_cons, mv_cat]
    by_cases hc : a.category = 2
    · simp only [hc, if_true] at h ⊢
      match i, h with
      | 0, h => simp at h; subst h; rfl
      | 1, h => simp at h; subst h; cases hv
      | i + 2, h => exact ih i v (by simpa [flA] using h) hv
    · simp only [hc, if_false] at h ⊢
      match i, h with
      | 0, h => simp at h; subst h; rfl
      | i + 1, h => exact ih i v (by simpa [flA] using h) hv
theorem LR_ent (base : Nat) (sa : SA) (As : List Value) {n : Nat} (h : (flA As).length ≤ n) : LR base sa n ((lg_sl (As.map (mv base sa)) ++ List.replicate (n - (lg_sl (As.map (mv base sa))).length) Slot.unset).toArray) (entL As n) := by
  have h0 := lv_entry (As.map (mv base sa)) (n := n) (by rw [flA_len]; exact h)
  refine ⟨h0.1, h0.2.1, fun i v hi hv => ?_⟩
  unfold entL at hi
  have hlt : i < (flA As).length := by
    rcases Nat.lt_or_ge i (flA As).length with q | q
    · exact q
    · rw [List.getElem?_append_right q, List.getElem?_replicate] at hi
      split at hi
      · cases hi; cases hv
      · cases hi
  rw [List.getElem?_append_left hlt] at hi
  rw [List.getElem?_toArray, List.getElem?_append_left (by rw [flA_len]; exact hlt)]
  exact flA_at base sa As i v hi hv
theorem hdOK_spec {M : MI} (h : hdOK M = true) : plainName M.1.cls = true ∧ M.1.cls = own (mO M) ∧ mL M ≤ 40 ∧ M.1.cls ≠ "java/lang/invoke/MethodHandle" ∧ M.1.cls ≠ "java/lang/invoke/VarHandle" ∧ (parseMethodDescriptor M.1.desc).map (fun d => d.parameters.length) = some (mN M) := by
  simp only [hdOK, Bool.and_eq_true, beq_iff_eq, decide_eq_true_eq] at h
  exact ⟨h.1.1.1, h.1.1.2, Nat.le_of_ble_eq_true h.1.2, h.2.1, h.2.2.1, h.2.2.2⟩
theorem gw_good {l : List Cond} (h : ∀ w ∈ l, w ∈ gw) : GoodIn gw l := fun w hw => ⟨h w hw, (gw_in w (h w hw)).2⟩
abbrev wsM (M : MI) : List Cond := Cond.code (mY M) (mB M) (mL M) (mR M) :: gw
theorem wsM_gw {M : MI} (h : M ∈ mil) : ∀ w ∈ wsM M, w ∈ gw := fun w hw => (List.mem_cons.mp hw).elim (fun e => e ▸ mil_gw M h _ (by simp [mw])) id
def rmM (d bc bs : Nat) : Room := { frames := frs d, cells := bc, slots := bs, locals := lcs d }
abbrev PcM (base : Nat) (sa : SA) (sv : Nat) (D : va_G) (dA : Nat → ClassId) (As : List Value) (lay : HL) (VI : VIT) (VL : VLT) (VR : VRT) : Array Value → State → Prop := va_Pc (As.map (mv base sa)) (fun U => HR base sa dA D lay VI VL VR U.heap ∧ KK base sa sv D dA U)
theorem PcM_blind {base : Nat} {sa : SA} {sv : Nat} {D : va_G} {dA : Nat → ClassId} {As : List Value} {lay : HL} {VI : VIT} {VL : VLT} {VR : VRT} : FrameBlind (PcM base sa sv D dA As lay VI VL VR) := by
  rintro a U g mk ⟨h1, h2, h3⟩
  exact ⟨h1, h2, h3.move (U := U.calling g mk a) (State.WarmedH.refl U) (fun _ _ => rfl) h3.2.2⟩
theorem met_of {d : Nat} {M : MI} {As : List Value} {lay : HL} {VI : VIT} {VL : VLT} {VR : VRT} {bc bs : Nat} {P : Post} (hok : mOKm M) (hfl : (flA As).length ≤ mL M) (k : Ex d M 0 (entL As (mL M)) [] lay VI VL VR bc bs P) (l : Launch) (base : Nat) (sa : SA) (sv : Nat) (D : va_G) (dA : Nat → ClassId) :
    Met l (mY M) (wsM M) (rmM d bc bs) (PcM base sa sv D dA As lay VI VL VR) (QP base sa D dA P) bc bs (fun q => base ≤ q) := by
  obtain ⟨o1, o2, o3, o4⟩ := hdOK_spec hok.1.2
  refine Met.ofW (cc := mB M) (maxL := mL M) (ret := mR M) o1 rfl ?_
  intro p e s m args below meth c s₁ B hml hv
  obtain ⟨rfl, hH, hK⟩ := hv
  have hts := atoms_spec (ws := wsM M) B.pre
  have hown : s.vm.findClass (mY M).cls = some m.cls := findClass_of_methodNamed B.named
  rw [lg_entry_eq]
  exact k p l e (rmM d bc bs) s m _ below meth c s.heap [] 0 0 base sa sv D dA _ ⟨B.exec, B.bytes, B.returns, hml, o2 ▸ hown, fun w hw => hts w (List.mem_cons_of_mem _ hw), hK, B.notSynchronized, (name_of_methodNamed B.named B.method).1, Nat.le_refl _, Nat.le_refl _, hok.1, trivial⟩ hH va_S.rf (LR_ent base sa As hfl) (by show 0 + bc ≤ bc; omega) (by show 0 + bs ≤ bs; omega)
theorem run_on {S : SPr} {d : Nat} {M : MI} {pc nx : Nat} {ls st : List Value} {P P' : Post} {p : Program} {l : Launch} {e : Env} {R : Room} {s : State} {m : MethodId} {args a : Array Value} {below : List Frame} {meth : Method} {c : Code} {H : Heap} {locs : List Loc} {cells slots base : Nat} {sa : SA} {sv mc ms bc bs : Nat} {D : va_G} {dA : Nat → ClassId} {lsC : Array Slot} {st0 : List Value}
    (C : Cx S d M base sa sv D dA p R s m args meth c) (hS : va_S (fun q => base ≤ q) s.heap H locs) (hl : LR base sa (mL M) lsC ls) (hnx : nx = pc + 3) (h1 : cells + (mc + bc) ≤ R.cells) (h2 : slots + (ms + bs) ≤ R.slots)
    (hr : va_Run p l e R s m args below meth c H locs cells slots mc ms (F0 m pc lsC st0) (st.map (mv base sa)) (QP base sa D dA P' a) (fun q => base ≤ q))
    (k : ∀ r lay' VI' VL' VR', P' r lay' VI' VL' VR' → ExS S d M nx ls (r.toList ++ st) lay' VI' VL' VR' bc bs P) :
    W p l e R s m args below meth c H locs cells slots (MQ below (QP base sa D dA P) args s R.cells R.slots (fun q => base ≤ q)) (F0 m pc lsC st0) := by
  intro T hT X
  obtain ⟨v, st₀, t, T', L, e0, X', hL, e1, e2, ⟨⟨r, lay', VI', VL', VR', hv, hP, hH⟩, hz, hk⟩, go⟩ := hr T hT X
  have hv : v = r.map (mv base sa) := by injection hv
  subst hv
  have hS' : va_S (fun q => base ≤ q) s.heap T'.heap (locs ++ L) := by
    rw [e1]
    refine ⟨Nat.le_trans hS.1 (by rw [← e0]; exact hz), fun q q1 q2 => ?_, fun q hq => (List.mem_append.mp hq).elim (hS.2.2 q) (hL q)⟩
    rw [hk q (by rw [e0]; exact Nat.lt_of_lt_of_le q1 hS.1) q2, e0]
    exact hS.2.1 q q1 q2
  have hst : (r.map (mv base sa)).toList ++ st.map (mv base sa) = (r.toList ++ st).map (mv base sa) := by cases r <;> rfl
  obtain ⟨t2, a1, b1⟩ := k r lay' VI' VL' VR' hP p l e R s m args below meth c T'.heap _ (cells + mc) (slots + ms) base sa sv D dA lsC C (by rw [e1]; exact hH) hS' hl (by omega) (by omega) T' rfl X'
  refine ⟨t2, ?_, b1⟩
  subst hnx
  rw [hst] at go
  exact go t2 a1
theorem U_ok {base : Nat} {sa : SA} {sv : Nat} {D : va_G} {dA : Nat → ClassId} {s U : State} {H : Heap} {locs : List Loc} (hK : KK base sa sv D dA s) (hS : va_S (fun q => base ≤ q) s.heap H locs) (hU : U.heap = H) (hW : s.WarmedH U.vm) : KK base sa sv D dA U :=
  hK.move hW (fun q hq => by rw [hU]; exact hS.2.1 q (Nat.lt_of_lt_of_le hq hK.2.2) (Nat.not_le.mpr hq)) (by rw [hU]; exact Nat.le_trans hK.2.2 hS.1)
section XC
variable {S : SPr} {d : Nat} {M M' : MI} {pc nx x y i : Nat} {v : Int32} {w : Int64} {ls ls' st st0 As : List Value} {lay : HL} {VI : VIT} {VL : VLT} {VR : VRT} {bc bs bc1 bs1 bc2 bs2 : Nat} {P : Post}
theorem x_callS (hc : lkp (mC M) pc = some (.invokestatic i, 3, nx, x, 0, v, w)) (hx : Nat.blt x 1000 = true) (hM : mi x = M') (hst : As.reverse ++ st = st0) (hok : mOKm M') (hF : mF M' = 0) (hn : As.length = mN M') (hfl : Nat.ble (flA As).length (mL M') = true) (hcat : Nat.ble (st.map (fun v => v.category)).sum 8 = true) (hbc : bc = bc1 + bc2) (hbs : bs = bs1 + bs2) (k : Ex d M' 0 (entL As (mL M')) [] lay VI VL VR bc1 bs1 (fun r lay' VI' VL' VR' => ExS S (d + 1) M nx ls (r.toList ++ st) lay' VI' VL' VR' bc2 bs2 P)) : ExS S (d + 1) M pc ls st0 lay VI VL VR bc bs P := by
  intro p l e R s m args below meth c H locs cells slots base sa sv D dA lsC C hH hS hl h1 h2
  obtain ⟨g1, g2, g3⟩ := dec' C.2.2.2.2.2.2.2.2.2.2.2.1 hc
  subst g2
  subst hM; subst hbc; subst hbs
  obtain ⟨o1, o2, o3, o4⟩ := hdOK_spec hok.1.2
  have hts := C.2.2.2.2.2.1
  have hK := C.2.2.2.2.2.2.1
  have hfr := C.2.2.2.2.2.2.2.2.2.1
  have hlo := C.2.2.2.2.2.2.2.2.2.2.1
  have hmw := mil_gw _ hok.2
  unfold frs at hfr; unfold lcs at hlo
  have hR : (rmM d bc1 bs1).frames + 1 ≤ R.frames ∧ 8 + (mL (mi x) + 11) + (rmM d bc1 bs1).locals ≤ R.locals := ⟨by show d + 1 + 1 ≤ _; omega, by show 8 + (mL (mi x) + 11) + (60 * d + 100) ≤ _; omega⟩
  have hm : (mO M, i, x, 0) ∈ mls := by
    have g4 := g3
    simp only [insOK] at g4
    have hx1 : x < 1000 := by simpa using hx
    simp [show ¬ x = 1001 by omega, show ¬ (0 = 3) by omega] at g4
    exact g4.2
  refine run_on C hS hl rfl (by omega) (by omega) (va_runS (y := mY (mi x)) (Ts := gw) (own := own (mO M)) (As := As.map (mv base sa)) ⟨C.1, C.2.1, C.2.2.2.1, C.2.2.2.2.1, hts⟩ (met_of hok (Nat.le_of_ble_eq_true hfl) k l base sa sv D dA) ⟨callB_of (mN (mi x)) hts (gw_good (wsM_gw hok.2)) rfl rfl rfl (hts _ (hmw _ (by simp [mw]))) (hts _ (mls_gw _ hm)) o4 hR, hts _ (hmw _ (by unfold mw; rw [show (mi x).2.2.2.2.2.2.1 = 0 from hF]; simp))⟩ ⟨PcM_blind, fun U hU hW => ⟨rfl, by rw [hU]; exact hH, U_ok hK hS hU hW⟩⟩ rfl (by rw [List.length_map]; exact hn) hl.1 (by subst hst; simp) (lv_room (by simpa [Function.comp_def, mv_cat] using hcat)) g1 ⟨by omega, by omega⟩) (fun r lay' VI' VL' VR' h => h)
theorem x_callN (hc : lkp (mC M) pc = some (.invokestatic i, 3, nx, x, 3, v, w)) (hx : Nat.blt x 1000 = true) (hM : mi x = M') (hst : As.reverse ++ st = st0) (hok : mOKm M') (hF : mF M' = 0) (hn : As.length = mN M') (hfl : Nat.ble (flA As).length (mL M') = true) (hcat : Nat.ble (st.map (fun v => v.category)).sum 8 = true) (hbc : bc = bc1 + bc2) (hbs : bs = bs1 + bs2) (k : Ex d M' 0 (entL As (mL M')) [] lay VI VL VR bc1 bs1 (fun r lay' VI' VL' VR' => ExS S (d + 1) M nx ls (r.toList ++ st) lay' VI' VL' VR' bc2 bs2 P)) : ExS S (d + 1) M pc ls st0 lay VI VL VR bc bs P := by
  intro p l e R s m args below meth c H locs cells slots base sa sv D dA lsC C hH hS hl h1 h2
  obtain ⟨g1, g2, g3⟩ := dec' C.2.2.2.2.2.2.2.2.2.2.2.1 hc
  subst g2
  subst hM; subst hbc; subst hbs
  obtain ⟨o1, o2, o3, o4⟩ := hdOK_spec hok.1.2
  have hts := C.2.2.2.2.2.1
  have hK := C.2.2.2.2.2.2.1
  have hfr := C.2.2.2.2.2.2.2.2.2.1
  have hlo := C.2.2.2.2.2.2.2.2.2.2.1
  have hmw := mil_gw _ hok.2
  unfold frs at hfr; unfold lcs at hlo
  have hR : (rmM d bc1 bs1).frames + 1 ≤ R.frames ∧ 8 + (mL (mi x) + 11) + (rmM d bc1 bs1).locals ≤ R.locals := ⟨by show d + 1 + 1 ≤ _; omega, by show 8 + (mL (mi x) + 11) + (60 * d + 100) ≤ _; omega⟩
  have hm : (mO M, i, x) ∈ nls := by
    have g4 := g3
    simp only [insOK] at g4
    have hx1 : x < 1000 := by simpa using hx
    simp only [Bool.or_eq_true, Bool.and_eq_true, beq_iff_eq] at g4
    rcases g4 with (⟨⟨h0, -⟩, -⟩ | ⟨h0, -⟩) | ⟨-, h0⟩
    · exact absurd h0 (by omega)
    · exact absurd h0 (by omega)
    · exact List.elem_iff.mp h0
  have hnest : va_Nw (.methodLinkNest (own (mO M)) i (mY (mi x)) RX11) s := hK.2.1.2.2.2.1 (mO M, i, x) hm
  refine run_on C hS hl rfl (by omega) (by omega) (va_runSN (y := mY (mi x)) (Ts := gw) (own := own (mO M)) (host := RX11) (As := As.map (mv base sa)) ⟨C.1, C.2.1, C.2.2.2.1, C.2.2.2.2.1, hts⟩ (met_of hok (Nat.le_of_ble_eq_true hfl) k l base sa sv D dA) ⟨va_cnB (mN (mi x)) hts (gw_good (wsM_gw hok.2)) rfl rfl rfl hnest (hts _ (hmw _ (by simp [mw]))) o4 hR, hts _ (hmw _ (by unfold mw; rw [show (mi x).2.2.2.2.2.2.1 = 0 from hF]; simp)), trivial⟩ ⟨PcM_blind, fun U hU hW => ⟨rfl, by rw [hU]; exact hH, U_ok hK hS hU hW⟩⟩ rfl (by rw [List.length_map]; exact hn) hl.1 (by subst hst; simp) (lv_room (by simpa [Function.comp_def, mv_cat] using hcat)) g1 ⟨by omega, by omega⟩) (fun r lay' VI' VL' VR' h => h)
theorem x_callV {b ci : Nat} (hc : lkp (mC M) pc = some (.invokevirtual i, 3, nx, x, 1, v, w)) (hx : Nat.blt x 1000 = true) (hM : mi x = M') (hst : As.reverse ++ .ref b :: st = st0) (hok : mOKm M') (hF : mF M' = 1) (hy : lay[b]? = some (.inr ci)) (hci : ci < 13) (hcn : (mY M').cls = cn ci) (hn : As.length = mN M') (hfl : Nat.ble (flA (.ref b :: As)).length (mL M') = true) (hcat : Nat.ble (st.map (fun v => v.category)).sum 8 = true) (hbc : bc = bc1 + bc2) (hbs : bs = bs1 + bs2) (k : Ex d M' 0 (entL (.ref b :: As) (mL M')) [] lay VI VL VR bc1 bs1 (fun r lay' VI' VL' VR' => ExS S (d + 1) M nx ls (r.toList ++ st) lay' VI' VL' VR' bc2 bs2 P)) : ExS S (d + 1) M pc ls st0 lay VI VL VR bc bs P := by
  intro p l e R s m args below meth c H locs cells slots base sa sv D dA lsC C hH hS hl h1 h2
  obtain ⟨g1, g2, g3⟩ := dec' C.2.2.2.2.2.2.2.2.2.2.2.1 hc
  subst g2
  subst hM; subst hbc; subst hbs
  obtain ⟨o1, o2, o3, o4⟩ := hdOK_spec hok.1.2
  have hts := C.2.2.2.2.2.1
  have hK := C.2.2.2.2.2.2.1
  have hfr := C.2.2.2.2.2.2.2.2.2.1
  have hlo := C.2.2.2.2.2.2.2.2.2.2.1
  have hmw := mil_gw _ hok.2
  unfold frs at hfr; unfold lcs at hlo
  have hR : (rmM d bc1 bs1).frames + 1 ≤ R.frames ∧ 8 + (mL (mi x) + 11) + (rmM d bc1 bs1).locals ≤ R.locals := ⟨by show d + 1 + 1 ≤ _; omega, by show 8 + (mL (mi x) + 11) + (60 * d + 100) ≤ _; omega⟩
  have hm : (mO M, i, x, 1) ∈ mls := by
    have g4 := g3
    simp only [insOK] at g4
    have hx1 : x < 1000 := by simpa using hx
    simp at g4
    exact g4.2
  have hiw : Cond.instanceMethod (mi x).1 ∈ gw ∧ Cond.selects (mi x).1.cls (mi x).1 (mi x).1 ∈ gw := ⟨hmw _ (by unfold mw; rw [show (mi x).2.2.2.2.2.2.1 = 1 from hF]; simp), hmw _ (by unfold mw; rw [show (mi x).2.2.2.2.2.2.1 = 1 from hF]; simp)⟩
  have hini : Cond.initialized (mi x).1.cls ∈ gw := hmw _ (by simp [mw])
  refine run_on C hS hl rfl (by omega) (by omega) (va_runV (y := mY (mi x)) (Ts := gw) (own := own (mO M)) (C := (mY (mi x)).cls) (b := base + b) (As := As.map (mv base sa)) ⟨C.1, C.2.1, C.2.2.2.1, C.2.2.2.2.1, hts⟩ (met_of hok (Nat.le_of_ble_eq_true hfl) k l base sa sv D dA) (cwV (mN (mi x)) hts (gw_good (fun w hw => ?_)) rfl rfl rfl ⟨rfl, o4⟩ hR) ⟨PcM_blind, ?_, fun U hU hW => ⟨rfl, by rw [hU]; exact hH, U_ok hK hS hU hW⟩⟩ rfl (by rw [List.length_map]; exact hn) hl.1 (by subst hst; simp [mv]) (lv_room (by simpa [Function.comp_def, mv_cat] using hcat)) g1 ⟨by omega, by omega⟩) (fun r lay' VI' VL' VR' h => h)
  · unfold wsV at hw
    rcases List.mem_append.mp hw with hw | hw
    · simp only [List.mem_cons, List.not_mem_nil, or_false] at hw
      rcases hw with rfl | rfl | rfl | rfl
      · exact mls_gw _ hm
      · exact hiw.1
      · exact hiw.2
      · exact hini
    · exact wsM_gw hok.2 w hw
  · rw [hcn]
    exact va_recv hK.1 hH.2 (cls_at ci hci) (wsC_at hy)
theorem x_callI {b : Nat} (hc : lkp (mC M) pc = some (.invokespecial i, 3, nx, x, 2, v, w)) (hx : Nat.blt x 1000 = true) (hM : mi x = M') (hst : As.reverse ++ .ref b :: st = st0) (hok : mOKm M') (hF : mF M' = 2) (hnm : (mY M').name = "<init>") (hrt : mR M' = none) (hn : As.length = mN M') (hfl : Nat.ble (flA (.ref b :: As)).length (mL M') = true) (hcat : Nat.ble (st.map (fun v => v.category)).sum 8 = true) (hbc : bc = bc1 + bc2) (hbs : bs = bs1 + bs2) (k : Ex d M' 0 (entL (.ref b :: As) (mL M')) [] lay VI VL VR bc1 bs1 (fun r lay' VI' VL' VR' => ExS S (d + 1) M nx ls (r.toList ++ st) lay' VI' VL' VR' bc2 bs2 P)) : ExS S (d + 1) M pc ls st0 lay VI VL VR bc bs P := by
  intro p l e R s m args below meth c H locs cells slots base sa sv D dA lsC C hH hS hl h1 h2
  obtain ⟨g1, g2, g3⟩ := dec' C.2.2.2.2.2.2.2.2.2.2.2.1 hc
  subst g2
  subst hM; subst hbc; subst hbs
  obtain ⟨o1, o2, o3, o4⟩ := hdOK_spec hok.1.2
  have hts := C.2.2.2.2.2.1
  have hK := C.2.2.2.2.2.2.1
  have hfr := C.2.2.2.2.2.2.2.2.2.1
  have hlo := C.2.2.2.2.2.2.2.2.2.2.1
  have hmw := mil_gw _ hok.2
  unfold frs at hfr; unfold lcs at hlo
  have hR : (rmM d bc1 bs1).frames + 1 ≤ R.frames ∧ 8 + (mL (mi x) + 11) + (rmM d bc1 bs1).locals ≤ R.locals := ⟨by show d + 1 + 1 ≤ _; omega, by show 8 + (mL (mi x) + 11) + (60 * d + 100) ≤ _; omega⟩
  have hm : (mO M, i, x, 2) ∈ mls := by
    have g4 := g3
    simp only [insOK] at g4
    have hx1 : x < 1000 := by simpa using hx
    simp [show ¬ x = 1000 by omega] at g4
    exact g4.2
  have hiw : Cond.instanceMethod (mi x).1 ∈ gw := hmw _ (by unfold mw; rw [show (mi x).2.2.2.2.2.2.1 = 2 from hF]; simp)
  have hcb := callB_of (R := R) (own := own (mO M)) (index := i) (mN (mi x)) hts (gw_good (wsM_gw hok.2)) rfl (rm := rmM d bc1 bs1) rfl rfl (hts _ (hmw _ (by simp [mw]))) (hts _ (mls_gw _ hm)) o4 hR
  rw [hrt] at hcb
  exact run_on C hS hl rfl (by omega) (by omega) (va_runI (y := mY (mi x)) (Ts := gw) (own := own (mO M)) (b := base + b) (As := As.map (mv base sa)) ⟨C.1, C.2.1, C.2.2.2.1, C.2.2.2.2.1, hts⟩ (met_of hok (Nat.le_of_ble_eq_true hfl) k l base sa sv D dA) ⟨hcb, hnm, hts _ hiw⟩ ⟨PcM_blind, fun U hU hW => ⟨rfl, by rw [hU]; exact hH, U_ok hK hS hU hW⟩⟩ rfl (by rw [List.length_map]; exact hn) hl.1 (by subst hst; simp [mv]) (lv_room (by simpa [Function.comp_def, mv_cat] using hcat)) g1 ⟨by omega, by omega⟩) (fun r lay' VI' VL' VR' h => h)
theorem x_objInit {b : Nat} (hc : lkp (mC M) pc = some (.invokespecial i, 3, nx, 1000, 2, v, w)) (hcat : Nat.ble (st.map (fun v => v.category)).sum 8 = true) (k : ExS S d M nx ls st lay VI VL VR bc bs P) : ExS S d M pc ls (.ref b :: st) lay VI VL VR bc bs P := by
  intro p l e R s m args below meth c H locs cells slots base sa sv D dA lsC C hH hS hl h1 h2
  obtain ⟨g1, g2, g3⟩ := dec' C.2.2.2.2.2.2.2.2.2.2.2.1 hc
  subst g2
  have hm : (mO M, i) ∈ oil := by
    have g4 := g3
    simp only [insOK] at g4
    exact List.elem_iff.mp (by simpa using g4)
  have hts := C.2.2.2.2.2.1
  have hfr := C.2.2.2.2.2.2.2.2.2.1
  have hlo := C.2.2.2.2.2.2.2.2.2.2.1
  unfold frs at hfr; unfold lcs at hlo
  have hs : (List.map (fun v => v.category) (List.map (mv base sa) st)).sum ≤ 8 := by simpa [Function.comp_def, mv_cat] using hcat
  exact W.objInit C.1 C.2.1 C.2.2.2.2.1 (hts _ (oil_gw _ hm)) (hts _ ins_obj) (hts _ cod_obj) rfl (hl.1.trans C.2.2.2.1.symm) rfl g1 (by omega) (by show 2 * 0 + _ + 12 ≤ _; omega) (k p l e R s m args below meth c H locs cells slots base sa sv D dA lsC C hH hS hl h1 h2)
end XC
