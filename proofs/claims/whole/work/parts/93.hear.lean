/-! ===== the class hears what a law says ===== -/
def clp (v hi : Int) : Int := if v < 0 then 0 else if hi < v then hi else v
abbrev HRs : Type := Int × Int × Nat
def hS (e : Env) (r : HRs) (c : Cla) : HRs := if c.2.2.2.2.2.1 = 0 ∨ soB (c.2.2.2.2.2.2 e) = true then (if c.1 = 2 then (r.1, r.2.1, 1) else (c.2.2.1 e).elim r (fun v => if c.1 = 0 then (clp v 3, r.2.1, r.2.2) else (r.1, clp v 9, r.2.2))) else r
def lawE (K : KT) (p q dy m1 m2 wk : Nat) : Env := fun w => ((if w = 8 then p else if w = 9 then q else if w = 10 then m2 else if w = 11 then K (39 + p) else if w = 12 then K (45 + p) else if w = 13 then dy else if w = 14 then K 92 else if w = 15 then m1 else if w = 16 then wk else 0 : Nat) : Int)
def r0K (K : KT) (p : Nat) : HRs := (-1, (K (39 + p) : Int), 0)
def hearR (K : KT) (p q dy mk wk : Nat) : HRs := if K 97 = 0 then r0K K p else (kcl K (K 97 - 1)).2.2.foldl (hS (lawE K p q dy (mk / 4) (mk % 4) wk)) (r0K K p)
set_option maxRecDepth 20000 in
theorem take_step {cl : List Cla} {g : HRs → Cla → HRs} {r : HRs} {i : Nat} {c : Cla} (h : cl[i]? = some c) : (cl.take (i + 1)).foldl g r = g ((cl.take i).foldl g r) c := by
  rw [List.take_add_one, h, List.foldl_append]
  rfl
set_option maxRecDepth 20000 in
theorem lawE_bd {K : KT} (hW : WF K) {p q dy m1 m2 wk : Nat} (hp : p < K 93) (hq : q < 6) (hd : dy < 4) (h1 : m1 < 4) (h2 : m2 < 4) (hw : wk ≤ 1000000) (w : Nat) : -1000000000 ≤ lawE K p q dy m1 m2 wk w ∧ lawE K p q dy m1 m2 wk w ≤ 1000000000 := by
  have h6 := hW.n
  have h9 : K (39 + p) ≤ 9 := (hW.2.2.2.2.2.2.2.2.1 p hp).2.1
  have h99 : K (45 + p) ≤ 99 := (hW.2.2.2.2.2.2.2.2.1 p hp).2.2
  have hmo : K 92 ≤ 9 := hW.2.2.2.2.2.2.2.1
  unfold lawE
  repeat' split
  all_goals omega
/-! kinds and tests of the clauses of a law -/
set_option maxRecDepth 20000 in
theorem pIf_kind {o : Bool} {tc tv : Nat → Nat} {i p kd tm : Nat} {x y z : Den} : (pIf o tc tv i p kd tm x y z).2.2.2.1 = kd ∧ (pIf o tc tv i p kd tm x y z).2.2.2.2.2.2.2.2.1 ≤ 1 := by
  unfold pIf
  split
  · split
    · exact ⟨rfl, Nat.le_refl _⟩
    · exact ⟨rfl, Nat.le_refl _⟩
  · exact ⟨rfl, Nat.zero_le _⟩
set_option maxRecDepth 20000 in
theorem pLawC_kind {tc tv : Nat → Nat} {i p : Nat} : (pLawC tc tv i p).2.2.2.1 ≤ 2 ∧ (pLawC tc tv i p).2.2.2.2.2.2.2.2.1 ≤ 1 := by
  unfold pLawC
  split
  · split
    · rw [pIf_kind.1]; exact ⟨by omega, pIf_kind.2⟩
    · exact ⟨Nat.zero_le _, Nat.zero_le _⟩
  · split
    · rw [pIf_kind.1]; exact ⟨by omega, pIf_kind.2⟩
    · exact ⟨Nat.zero_le _, Nat.zero_le _⟩
set_option maxRecDepth 20000 in
theorem pTxt_kind {tc tv : Nat → Nat} {n : Nat} : ∀ m i p, (pTxt false tc tv n m i p).2.2.length ≤ m ∧ ∀ c, c ∈ (pTxt false tc tv n m i p).2.2 → c.1 ≤ 2 ∧ c.2.2.2.2.2.1 ≤ 1
  | 0, i, p => ⟨Nat.le_refl _, fun c hc => (by cases hc)⟩
  | m + 1, i, p => by
    have ih := pTxt_kind (tc := tc) (tv := tv) (n := n) m
    have hk := pLawC_kind (tc := tc) (tv := tv) (i := i) (p := p)
    rw [pTxt]
    simp only [Bool.false_eq_true, if_false]
    split
    · split
      · refine ⟨by simp, fun c hc => ?_⟩
        rcases List.mem_cons.mp hc with rfl | hc
        · exact hk
        · cases hc
      · split
        · refine ⟨by simp only [List.length_cons]; exact Nat.succ_le_succ (ih _ _).1, fun c hc => ?_⟩
          rcases List.mem_cons.mp hc with rfl | hc
          · exact hk
          · exact (ih _ _).2 c hc
        · exact ⟨Nat.zero_le _, fun c hc => (by cases hc)⟩
    · exact ⟨Nat.zero_le _, fun c hc => (by cases hc)⟩
set_option maxRecDepth 20000 in
theorem nI_sub1 {t : Nat} : nI (t + 1) - nI 1 = nI t := by
  rw [← nI_add, Int32.sub_eq_add_neg, Int32.add_assoc, show nI 1 + -nI 1 = (0 : Int32) from rfl, Int32.add_zero]
set_option maxRecDepth 20000 in
theorem clp_i {v hi : Int} (h0 : 0 ≤ hi) (h1 : hi ≤ 1000) (hv1 : -2000000000 < v) (hv2 : v < 2000000000) : (if (0 : Int32) < (if Int32.ofInt hi < Int32.ofInt v then Int32.ofInt hi else Int32.ofInt v) then (if Int32.ofInt hi < Int32.ofInt v then Int32.ofInt hi else Int32.ofInt v) else 0) = Int32.ofInt (clp v hi) := by
  have e1 := oI_toInt (a := hi) (by omega) (by omega)
  have e2 := oI_toInt (a := v) (by omega) (by omega)
  have e0 : (0 : Int32).toInt = 0 := rfl
  unfold clp
  simp only [Int32.lt_iff_toInt_lt]
  rw [e1, e2]
  by_cases c1 : hi < v
  · rw [if_pos c1, e1, e0, if_neg (show ¬ v < 0 by omega), if_pos c1]
    by_cases c2 : 0 < hi
    · rw [if_pos c2]
    · rw [if_neg c2, show hi = 0 by omega]; rfl
  · rw [if_neg c1, e2, e0]
    by_cases c2 : 0 < v
    · rw [if_pos c2, if_neg (show ¬ v < 0 by omega), if_neg c1]
    · rw [if_neg c2]
      by_cases c3 : v < 0
      · rw [if_pos c3]; rfl
      · rw [if_neg c3, if_neg c1, show v = 0 by omega]; rfl
set_option maxRecDepth 20000 in
theorem x_astoreN {S : SPr} {d : Nat} {M : MI} {pc nx x y : Nat} {v : Int32} {w : Int64} {ls ls' st : List Value} {lay : HL} {VI : VIT} {VL : VLT} {VR : VRT} {bc bs j : Nat} {P : Post} (hc : lkp (mC M) pc = some (.astore j, 2, nx, x, y, v, w)) (hs : st1 ls x .null = ls') (hn : Nat.blt x (mL M) = true) (k : ExS S d M nx ls' st lay VI VL VR bc bs P) : ExS S d M pc ls (.null :: st) lay VI VL VR bc bs P := by
  intro p l e R s m args below meth c H locs cells slots base sa sv D dA lsC C hH hS hl h1 h2
  obtain ⟨g1, g2, g3⟩ := dec' C.2.2.2.2.2.2.2.2.2.2.2.1 hc
  subst g2
  simp only [insOK, beq_iff_eq] at g3
  subst hs
  exact lv_astoreN C.1 C.2.1 (g3 ▸ g1) hl.has (by simpa using hn) rfl (fun lsC h => k p l e R s m args below meth c H locs cells slots base sa sv D dA lsC C hH hS (LR_st1 h) h1 h2)
def FrH (V0 V : VIT) : Prop := ∀ a k, a ≠ 2 → a ≠ 44 → ¬ (a = 43 ∧ (k = 3 ∨ k = 4 ∨ k = 5)) → V a k = V0 a k
def Wrd (e : Env) (V : VIT) : Prop := ∀ k, k < 9 → V 44 k = Int32.ofInt (e (lwm k))
def HrAt (r : HRs) (V : VIT) : Prop := V 43 3 = Int32.ofInt r.1 ∧ V 43 4 = Int32.ofInt r.2.1 ∧ V 43 5 = nI r.2.2
section Hear
variable {d : Nat} {V V0 : VIT} {VL : VLT} {G : VRT} {P : Post} {ext : HL} {K : KT} {p q dy mk wk : Nat}
set_option maxRecDepth 20000 in
theorem s_setWords (hX : RW 3 K V) (hW : WF K) (hp : p < K 93) (hmk : mk < 16) (hP : ∀ V' : VIT, (∀ a k, a ≠ 44 → V' a k = V a k) → Wrd (lawE K p q dy (mk / 4) (mk % 4) wk) V' → P none (LY ++ ext) V' VL (vr G)) : Ex d mi18 0 (entL [.ref 43, .int (nI p), .int (nI q), .int (nI dy), .int (nI mk), .int (nI wk)] 6) [] (LY ++ ext) V VL (vr G) 0 0 P := by
  have h6 := hW.n
  refine x_aload_n rfl rfl ?_
  refine x_getR (u := .ref _) rfl rfl rfl rfl ?_
  refine x_iconstN (q := 0) rfl ?_
  refine x_iload_n rfl rfl ?_
  refine x_iasN (j := 0) rfl rfl (rfl) (by omega) ?_
  refine x_aload_n rfl rfl ?_
  refine x_getR (u := .ref _) rfl rfl rfl rfl ?_
  refine x_iconstN (q := 1) rfl ?_
  refine x_iload_n rfl rfl ?_
  refine x_iasN (j := 1) rfl rfl (rfl) (by omega) ?_
  refine x_aload_n rfl rfl ?_
  refine x_getR (u := .ref _) rfl rfl rfl rfl ?_
  refine x_iconstN (q := 2) rfl ?_
  refine x_iload rfl rfl ?_
  refine x_iconstN (q := 4) rfl ?_
  refine x_idivN rfl ?_
  refine x_iasN (j := 2) rfl rfl (rfl) (by omega) ?_
  refine x_aload_n rfl rfl ?_
  refine x_getR (u := .ref _) rfl rfl rfl rfl ?_
  refine x_iconstN (q := 3) rfl ?_
  refine x_iload rfl rfl ?_
  refine x_iconstN (q := 4) rfl ?_
  refine x_iremN rfl ?_
  refine x_iasN (j := 3) rfl rfl (rfl) (by omega) ?_
  refine x_aload_n rfl rfl ?_
  refine x_getR (u := .ref _) rfl rfl rfl rfl ?_
  refine x_iconstN (q := 4) rfl ?_
  refine x_aload_n rfl rfl ?_
  refine x_getR (u := .ref _) rfl rfl rfl rfl ?_
  refine x_getR (u := .ref _) rfl rfl rfl rfl ?_
  refine x_iload_n rfl rfl ?_
  refine x_ialE (j := p) rfl rfl (rfl) (by omega) (hX.firm hp) ?_
  refine x_iasN (j := 4) rfl rfl (rfl) (by omega) ?_
  refine x_aload_n rfl rfl ?_
  refine x_getR (u := .ref _) rfl rfl rfl rfl ?_
  refine x_iconstN (q := 5) rfl ?_
  refine x_aload_n rfl rfl ?_
  refine x_getR (u := .ref _) rfl rfl rfl rfl ?_
  refine x_getR (u := .ref _) rfl rfl rfl rfl ?_
  refine x_iload_n rfl rfl ?_
  refine x_ialE (j := p) rfl rfl (rfl) (by omega) (hX.age hp) ?_
  refine x_iasN (j := 5) rfl rfl (rfl) (by omega) ?_
  refine x_aload_n rfl rfl ?_
  refine x_getR (u := .ref _) rfl rfl rfl rfl ?_
  refine x_bipushN (q := 6) rfl ?_
  refine x_iload_n rfl rfl ?_
  refine x_iasN (j := 6) rfl rfl (rfl) (by omega) ?_
  refine x_aload_n rfl rfl ?_
  refine x_getR (u := .ref _) rfl rfl rfl rfl ?_
  refine x_bipushN (q := 7) rfl ?_
  refine x_iload rfl rfl ?_
  refine x_iasN (j := 7) rfl rfl (rfl) (by omega) ?_
  refine x_aload_n rfl rfl ?_
  refine x_getR (u := .ref _) rfl rfl rfl rfl ?_
  refine x_bipushN (q := 8) rfl ?_
  refine x_aload_n rfl rfl ?_
  refine x_getR (u := .ref _) rfl rfl rfl rfl ?_
  refine x_getR (u := .ref _) rfl rfl rfl rfl ?_
  refine x_iconstN (q := 2) rfl ?_
  refine x_ialE (j := 2) rfl rfl (rfl) (by omega) (hX.t2) ?_
  refine x_iasN (j := 8) rfl rfl (rfl) (by omega) ?_
  refine x_vret rfl rfl ?_
  refine hP _ (fun a k h => by rw [up_ne h, up_ne h, up_ne h, up_ne h, up_ne h, up_ne h, up_ne h, up_ne h, up_ne h]) (fun k hk => ?_)
  rcases (show k = 0 ∨ k = 1 ∨ k = 2 ∨ k = 3 ∨ k = 4 ∨ k = 5 ∨ k = 6 ∨ k = 7 ∨ k = 8 by omega) with rfl | rfl | rfl | rfl | rfl | rfl | rfl | rfl | rfl <;> exact oI_nat
set_option maxRecDepth 20000 in
theorem s_lawInForce_none (hX : RW 3 K V) (h : K 97 = 0) (hW : WF K) (hP : P (some .null) (LY ++ ext) V VL (vr G)) : Ex (d + 1) mi100 0 (entL [.ref 3] 1) [] (LY ++ ext) V VL (vr G) 0 0 P := by
  have h96 := hW.l6
  have hf : V 3 15 = -1 := by rw [hX.fo, h]; rfl
  refine x_aload_n rfl rfl ?_
  refine x_aload_n rfl rfl ?_
  refine x_getE (y := 15) rfl rfl rfl (hf) ?_
  refine x_callV (M' := mi97) (As := [_]) (bc1 := 0) (bs1 := 0) (bc2 := 0) (bs2 := 0) rfl rfl rfl rfl ok97 rfl rfl (by decide) rfl rfl rfl rfl rfl rfl ?_
  refine s_hasLaw ?_
  rw [hX.ln, hasF_neg (by decide)]
  refine x_if_eq rfl (fun c8 => ?_) (fun c8 => ?_)
  rotate_left
  · exact absurd c8 (by first | decide | omega)
  refine x_null rfl ?_
  refine x_aret rfl rfl (by first | exact Or.inl rfl | exact Or.inr ⟨_, rfl⟩) ?_
  exact hP
set_option maxRecDepth 20000 in
theorem s_lawInForce_some {t b : Nat} (hX : RW 3 K V) (hW : WF K) (h : K 97 = t + 1) (hb : vr G 13 t = .ref b) (hP : P (some (.ref b)) (LY ++ ext) V VL (vr G)) : Ex (d + 1) mi100 0 (entL [.ref 3] 1) [] (LY ++ ext) V VL (vr G) 0 0 P := by
  have h96 := hW.l6
  have h5 : K 97 ≤ K 96 := hW.2.2.2.2.1
  have hf : V 3 15 = nI t := by
    rw [hX.fo, h, show nI (t + 1) - 1 = nI (t + 1) - nI 1 from rfl]
    exact nI_sub1
  refine x_aload_n rfl rfl ?_
  refine x_aload_n rfl rfl ?_
  refine x_getE (y := 15) rfl rfl rfl (hf) ?_
  refine x_callV (M' := mi97) (As := [_]) (bc1 := 0) (bs1 := 0) (bc2 := 0) (bs2 := 0) rfl rfl rfl rfl ok97 rfl rfl (by decide) rfl rfl rfl rfl rfl rfl ?_
  refine s_hasLaw ?_
  rw [hX.ln, hasF_in (by omega) (by omega)]
  refine x_if_eq rfl (fun c8 => ?_) (fun c8 => ?_)
  · exact absurd c8 (by first | decide | omega)
  refine x_aload_n rfl rfl ?_
  refine x_getR (u := .ref _) rfl rfl rfl rfl ?_
  refine x_aload_n rfl rfl ?_
  refine x_getE (y := 15) rfl rfl rfl (hf) ?_
  refine x_aal5R (j := t) (b := b) rfl rfl rfl (by omega) hb ?_
  refine x_goto rfl ?_
  refine x_aret rfl rfl (by first | exact Or.inl rfl | exact Or.inr ⟨_, rfl⟩) ?_
  exact hP
set_option maxRecDepth 20000 in
theorem hear_none (hX : RW 3 K V) (hW : WF K) (h : K 97 = 0) (hp : p < K 93) (hP : ∀ V' : VIT, FrH V V' → HrAt (hearR K p q dy mk wk) V' → P none (LY ++ ext) V' VL (vr G)) : Ex (d + 2) mi17 0 (entL [.ref 43, .int (nI p), .int (nI q), .int (nI dy), .int (nI mk), .int (nI wk)] 11) [] (LY ++ ext) V VL (vr G) 0 0 P := by
  have h6 := hW.n
  have hX1 : RW 3 K (up (up V 43 3 (-1)) 43 5 0) := hX.same (fun a _ _ => by rw [up_ne (by omega), up_ne (by omega)])
  have hX2 : RW 3 K (up (up (up V 43 3 (-1)) 43 5 0) 43 4 (nI (K (39 + p)))) := hX1.same (fun a _ _ => by rw [up_ne (by omega)])
  refine x_aload_n rfl rfl ?_
  refine x_iconst rfl ?_
  refine x_putI rfl rfl rfl rfl ?_
  refine x_aload_n rfl rfl ?_
  refine x_iconst rfl ?_
  refine x_putZ rfl rfl rfl rfl (by first | exact Or.inl rfl | exact Or.inr rfl) ?_
  refine x_aload_n rfl rfl ?_
  refine x_aload_n rfl rfl ?_
  refine x_getR (u := .ref _) rfl rfl rfl rfl ?_
  refine x_iload_n rfl rfl ?_
  refine x_callV (M' := mi95) (As := [_]) (bc1 := 0) (bs1 := 0) (bc2 := 0) (bs2 := 0) rfl rfl rfl rfl ok95 rfl rfl (by decide) rfl rfl rfl rfl rfl rfl ?_
  refine s_hasPersonK hX1 ?_
  rw [hasF_in hp (by omega)]
  refine x_if_eq rfl (fun c19 => ?_) (fun c19 => ?_)
  · exact absurd c19 (by first | decide | omega)
  refine x_aload_n rfl rfl ?_
  refine x_getR (u := .ref _) rfl rfl rfl rfl ?_
  refine x_getR (u := .ref _) rfl rfl rfl rfl ?_
  refine x_iload_n rfl rfl ?_
  refine x_ialE (j := p) rfl rfl (rfl) (by omega) (hX1.firm hp) ?_
  refine x_goto rfl ?_
  refine x_putI rfl rfl rfl rfl ?_
  refine x_aload_n rfl rfl ?_
  refine x_getR (u := .ref _) rfl rfl rfl rfl ?_
  refine x_callV (M' := mi100) (As := []) (bc1 := 0) (bs1 := 0) (bc2 := 0) (bs2 := 0) rfl rfl rfl rfl ok100 rfl rfl (by decide) rfl rfl rfl rfl rfl rfl ?_
  refine s_lawInForce_none hX2 h hW ?_
  refine x_astoreN (ls' := [_, _, _, _, _, _, _, _, _, _, _]) rfl rfl rfl ?_
  refine x_aloadN rfl rfl ?_
  refine x_ifnullN rfl ?_
  refine x_vret rfl rfl ?_
  refine hP _ (fun a k q1 q2 q3 => by rw [up_ne2 (by omega), up_ne2 (by omega), up_ne2 (by omega)]) ?_
  unfold hearR
  rw [if_pos h]
  exact ⟨rfl, oI_nat, rfl⟩
end Hear
section Hear2
variable {d : Nat} {V0 : VIT} {VL : VLT} {G : VRT} {P : Post} {ext : HL} {p q dy mk wk b L : Nat} {cl : List Cla} {cd : Nat → Nat} {e : Env} {r0 : HRs}
set_option maxRecDepth 20000 in
theorem FrS.H {V0 V V1 : VIT} (h : FrH V0 V) (h1 : FrS V V1) : FrH V0 V1 := fun a k q1 q2 q3 => (h1 a k q1).trans (h a k q1 q2 q3)
set_option maxRecDepth 20000 in
theorem hear_loop (hl4 : (LY ++ ext)[b]? = some (.inr 9)) (hv0 : vr G b 0 = .ref (b + 1)) (hv1 : vr G b 1 = .ref (b + 2)) (hb : 100 ≤ b) (hl5 : (LY ++ ext)[b + 1]? = some (.inl (0, 72))) (hl7 : (LY ++ ext)[b + 2]? = some (.inl (0, L))) (hL9 : L ≤ 896) (hn : V0 b 2 = nI cl.length) (hn12 : cl.length ≤ 12) (hk2 : ∀ c, c ∈ cl → c.1 ≤ 2) (hcd : ∀ k, k < L → cd k < 1000000 ∧ V0 (b + 2) k = nI (cd k)) (hT : TextOf (V0 (b + 1)) cd L lwm cl) (he : ∀ w, -1000000000 ≤ e w ∧ e w ≤ 1000000000) (hP : ∀ V' : VIT, FrH V0 V' → HrAt (cl.foldl (hS e) r0) V' → P none (LY ++ ext) V' VL (vr G)) : ∀ (m i : Nat) (V : VIT) (z8 z9 z10 : Value), i + m = cl.length → FrH V0 V → Wrd e V → HrAt ((cl.take i).foldl (hS e) r0) V → Ex (d + 2) mi17 78 [.ref 43, .int (nI p), .int (nI q), .int (nI dy), .int (nI mk), .int (nI wk), .ref b, .int (nI i), z8, z9, z10] [] (LY ++ ext) V VL (vr G) 0 0 P := by
  intro m
  induction m with
  | zero =>
    intro i V z8 z9 z10 hi hF hWd hH
    have ei : i = cl.length := by omega
    subst ei
    rw [List.take_length] at hH
    have hn1 : V b 2 = nI cl.length := (hF b 2 (by omega) (by omega) (by omega)).trans hn
    refine x_iload rfl rfl ?_
    refine x_aload rfl rfl ?_
    refine x_getE (y := 2) rfl hl4 rfl hn1 ?_
    refine x_icmpN_ge rfl (fun c85 => ?_) (fun c85 => ?_)
    rotate_left
    · exact absurd c85 (by first | decide | omega)
    refine x_vret rfl rfl ?_
    exact hP V hF hH | succ m ih =>
    intro i V z8 z9 z10 hi hF hWd hH
    obtain ⟨c, hc⟩ : ∃ c, cl[i]? = some c := ⟨cl[i], List.getElem?_eq_getElem (by omega)⟩
    have hkc := hk2 c (List.mem_of_getElem? hc)
    obtain ⟨t1, t2, t3, t4, t5⟩ := hT i c hc
    have est := take_step (g := hS e) (r := r0) hc
    have hn1 : V b 2 = nI cl.length := (hF b 2 (by omega) (by omega) (by omega)).trans hn
    have hhd : ∀ k, V (b + 1) k = V0 (b + 1) k := fun k => hF (b + 1) k (by omega) (by omega) (by omega)
    -- what a value comes to, in any state as it may stand here
    have hval : ∀ (s : Nat) (x : Den) (W : VIT) (Q : Post), s < L → Tells cd L s lwm x → FrH V0 W → Wrd e W → (∀ W' : VIT, FrS W W' → (∀ a, x e = some a → -1000002000 ≤ a ∧ a ≤ 1000002000) → Q (some (.int (obr (x e)))) (LY ++ ext) W' VL (vr G)) → Ex (d + 1) mi77 0 (entL [.ref 1, .ref b, .int (nI s), .ref 44] 10) [] (LY ++ ext) W VL (vr G) 0 0 Q := by
      intro s x W Q hs hTl hFW hWW hQ
      have et : vm 9 cd L (fun k => e (lwm k)) 1000 s [] = x e := hTl e
      refine s_value (nw := 9) (e := fun k => e (lwm k)) (cd := cd) hl4 hv1 hl7 rfl hL9 (by omega) (by omega) (by omega) (fun k hk => ⟨(hcd k hk).1, (hFW (b + 2) k (by omega) (by omega) (by omega)).trans (hcd k hk).2⟩) (fun k hk => ⟨hWW k hk, he _⟩) hs (fun W' hS' => ?_)
      rw [et]
      refine hQ W' hS' (fun a ha => ?_)
      rw [← et] at ha
      have := vm_bd (fun k hk => (hcd k hk).1) (fun k _ => he (lwm k)) 1000 s 0 [] a (fun x hx => (by cases hx)) ha
      omega
    -- the rest of a clause that is so
    have hrest : ∀ (W : VIT) (z8 : Int32) (z9 z10 : Value), (c.2.2.2.2.2.1 = 0 ∨ soB (c.2.2.2.2.2.2 e) = true) → FrH V0 W → Wrd e W → HrAt ((cl.take i).foldl (hS e) r0) W → Ex (d + 2) mi17 128 [.ref 43, .int (nI p), .int (nI q), .int (nI dy), .int (nI mk), .int (nI wk), .ref b, .int (nI i), .int z8, z9, z10] [] (LY ++ ext) W VL (vr G) 0 0 P := by
      intro W z8 z9 z10 hso hFW hWW hHW
      have hnW : W b 2 = nI cl.length := (hFW b 2 (by omega) (by omega) (by omega)).trans hn
      have hhW : ∀ k, W (b + 1) k = V0 (b + 1) k := fun k => hFW (b + 1) k (by omega) (by omega) (by omega)
      by_cases c2 : c.1 = 2
      · have e2 : hS e ((cl.take i).foldl (hS e) r0) c = (((cl.take i).foldl (hS e) r0).1, ((cl.take i).foldl (hS e) r0).2.1, 1) := by
          unfold hS
          rw [if_pos hso, if_pos c2]
        have hk := fun z8 z9 z10 => ih (i + 1) (up W 43 5 (nI 1)) z8 z9 z10 (by omega) (fun a k q1 q2 q3 => by rw [up_ne2 (by omega)]; exact hFW a k q1 q2 q3) (fun k hk => by rw [up_ne (by omega)]; exact hWW k hk) (by
          rw [est, e2]
          exact ⟨(up_at' (by omega)).trans hHW.1, (up_at' (by omega)).trans hHW.2.1, up_at⟩)
        refine x_aload rfl rfl ?_
        refine x_iload rfl rfl ?_
        refine x_iconstN (q := 0) rfl ?_
        refine x_callV (M' := mi84) (As := [_, _]) (bc1 := 0) (bs1 := 0) (bc2 := 0) (bs2 := 0) rfl rfl rfl rfl ok84 rfl (hl4) (by decide) rfl rfl rfl rfl rfl rfl ?_
        refine s_head hl4 hv0 hl5 hnW hn12 (by omega) (by omega) ?_
        rw [show W (b + 1) (6 * i + 0) = nI c.1 from (hhW _).trans t1]
        refine x_istore (ls' := [_, _, _, _, _, _, _, _, _, _, _]) rfl rfl rfl ?_
        refine x_iload rfl rfl ?_
        refine x_iconstN (q := 2) rfl ?_
        refine x_icmpN_ne rfl (fun c141 => ?_) (fun c141 => ?_)
        · exact absurd c141 (by first | decide | omega)
        refine x_aload_n rfl rfl ?_
        refine x_iconstN (q := 1) rfl ?_
        refine x_putZ rfl rfl rfl rfl (by first | exact Or.inl rfl | exact Or.inr rfl) ?_
        refine x_goto rfl ?_
        refine x_iincN (q := 1) (ls' := [_, _, _, _, _, _, _, _, _, _, _]) rfl rfl rfl rfl ?_
        refine x_goto rfl ?_
        exact hk _ _ _
      · obtain ⟨s, hs, hhs, hTs⟩ : ∃ s, s < L ∧ V0 (b + 1) (6 * i + 2) = nI s ∧ Tells cd L s lwm c.2.2.1 := by
          rcases t3 with z | z | z
          · exact absurd z.2 c2
          · exact absurd z.1 (by decide)
          · exact z
        refine x_aload rfl rfl ?_
        refine x_iload rfl rfl ?_
        refine x_iconstN (q := 0) rfl ?_
        refine x_callV (M' := mi84) (As := [_, _]) (bc1 := 0) (bs1 := 0) (bc2 := 0) (bs2 := 0) rfl rfl rfl rfl ok84 rfl (hl4) (by decide) rfl rfl rfl rfl rfl rfl ?_
        refine s_head hl4 hv0 hl5 hnW hn12 (by omega) (by omega) ?_
        rw [show W (b + 1) (6 * i + 0) = nI c.1 from (hhW _).trans t1]
        refine x_istore (ls' := [_, _, _, _, _, _, _, _, _, _, _]) rfl rfl rfl ?_
        refine x_iload rfl rfl ?_
        refine x_iconstN (q := 2) rfl ?_
        refine x_icmpN_ne rfl (fun c141 => ?_) (fun c141 => ?_)
        rotate_left
        · exact absurd c141 (by first | decide | omega)
        refine x_aload_n rfl rfl ?_
        refine x_getR (u := .ref _) rfl rfl rfl rfl ?_
        refine x_aload rfl rfl ?_
        refine x_aload rfl rfl ?_
        refine x_iload rfl rfl ?_
        refine x_iconstN (q := 2) rfl ?_
        refine x_callV (M' := mi84) (As := [_, _]) (bc1 := 0) (bs1 := 0) (bc2 := 0) (bs2 := 0) rfl rfl rfl rfl ok84 rfl (hl4) (by decide) rfl rfl rfl rfl rfl rfl ?_
        refine s_head hl4 hv0 hl5 hnW hn12 (by omega) (by omega) ?_
        rw [show W (b + 1) (6 * i + 2) = nI s from (hhW _).trans hhs]
        refine x_aload_n rfl rfl ?_
        refine x_getR (u := .ref _) rfl rfl rfl rfl ?_
        refine x_callV (M' := mi77) (As := [_, _, _]) (bc1 := 0) (bs1 := 0) (bc2 := 0) (bs2 := 0) rfl rfl rfl rfl ok77 rfl rfl (by decide) rfl rfl rfl rfl rfl rfl ?_
        refine hval s _ W _ hs hTs hFW hWW (fun W' hSW hbd => ?_)
        skip
        have hFW' : FrH V0 W' := FrS.H hFW hSW
        have hWW' : Wrd e W' := fun k hk => (hSW 44 k (by omega)).trans (hWW k hk)
        have hHW' : HrAt ((cl.take i).foldl (hS e) r0) W' := ⟨(hSW 43 3 (by omega)).trans hHW.1, (hSW 43 4 (by omega)).trans hHW.2.1, (hSW 43 5 (by omega)).trans hHW.2.2⟩
        cases hx : c.2.2.1 e with
        | none =>
          have e2 : hS e ((cl.take i).foldl (hS e) r0) c = (cl.take i).foldl (hS e) r0 := by
            unfold hS
            rw [if_pos hso, if_neg c2, hx]
            rfl
          have hk := fun z8 z9 z10 => ih (i + 1) W' z8 z9 z10 (by omega) hFW' hWW' (by rw [est, e2]; exact hHW')
          refine x_istore (ls' := [_, _, _, _, _, _, _, _, _, _, _]) rfl rfl rfl ?_
          refine x_iload rfl rfl ?_
          refine x_ldc rfl ?_
          refine x_icmp_eq rfl (fun c179 => ?_) (fun c179 => ?_)
          rotate_left
          · exact absurd rfl c179
          refine x_iload rfl rfl ?_
          refine x_ldc rfl ?_
          refine x_icmp_eq rfl (fun c208 => ?_) (fun c208 => ?_)
          rotate_left
          · exact absurd rfl c208
          refine x_iincN (q := 1) (ls' := [_, _, _, _, _, _, _, _, _, _, _]) rfl rfl rfl rfl ?_
          refine x_goto rfl ?_
          exact hk _ _ _ | some v =>
          have hvb := hbd v hx
          have hvn : ¬ obr (some v) = -2000000000 := fun z => by
            have z2 := congrArg Int32.toInt z
            rw [show (obr (some v)) = Int32.ofInt v from rfl, oI_toInt (by omega) (by omega), show ((-2000000000 : Int32)).toInt = -2000000000 from rfl] at z2
            omega
          by_cases c0 : c.1 = 0
          · have e2 : hS e ((cl.take i).foldl (hS e) r0) c = (clp v 3, ((cl.take i).foldl (hS e) r0).2.1, ((cl.take i).foldl (hS e) r0).2.2) := by
              unfold hS
              rw [if_pos hso, if_neg c2, hx]
              show (if c.1 = 0 then _ else _) = _
              rw [if_pos c0]
            have eclp : (if (0 : Int32) < (if (3 : Int32) < obr (some v) then 3 else obr (some v)) then (if (3 : Int32) < obr (some v) then 3 else obr (some v)) else 0) = Int32.ofInt (clp v 3) := clp_i (hi := 3) (by omega) (by omega) (by omega) (by omega)
            have hk := fun z8 z9 z10 => ih (i + 1) (up W' 43 3 (Int32.ofInt (clp v 3))) z8 z9 z10 (by omega) (fun a k q1 q2 q3 => by rw [up_ne2 (by omega)]; exact hFW' a k q1 q2 q3) (fun k hk => by rw [up_ne (by omega)]; exact hWW' k hk) (by
              rw [est, e2]
              exact ⟨up_at, (up_at' (by omega)).trans hHW'.2.1, (up_at' (by omega)).trans hHW'.2.2⟩)
            rw [c0]
            refine x_istore (ls' := [_, _, _, _, _, _, _, _, _, _, _]) rfl rfl rfl ?_
            refine x_iload rfl rfl ?_
            refine x_ldc rfl ?_
            refine x_icmp_eq rfl (fun c179 => ?_) (fun c179 => ?_)
            · exact absurd c179 hvn
            refine x_iload rfl rfl ?_
            refine x_ifN_ne rfl (fun c184 => ?_) (fun c184 => ?_)
            · exact absurd c184 (by first | decide | omega)
            refine x_aload_n rfl rfl ?_
            refine x_iconst rfl ?_
            refine x_iload rfl rfl ?_
            refine x_iconst rfl ?_
            refine x_min rfl rfl ?_
            refine x_max rfl rfl ?_
            rw [eclp]
            refine x_putI rfl rfl rfl rfl ?_
            refine x_goto rfl ?_
            refine x_iincN (q := 1) (ls' := [_, _, _, _, _, _, _, _, _, _, _]) rfl rfl rfl rfl ?_
            refine x_goto rfl ?_
            exact hk _ _ _
          · have e2 : hS e ((cl.take i).foldl (hS e) r0) c = (((cl.take i).foldl (hS e) r0).1, clp v 9, ((cl.take i).foldl (hS e) r0).2.2) := by
              unfold hS
              rw [if_pos hso, if_neg c2, hx]
              show (if c.1 = 0 then _ else _) = _
              rw [if_neg c0]
            have eclp : (if (0 : Int32) < (if (9 : Int32) < obr (some v) then 9 else obr (some v)) then (if (9 : Int32) < obr (some v) then 9 else obr (some v)) else 0) = Int32.ofInt (clp v 9) := clp_i (hi := 9) (by omega) (by omega) (by omega) (by omega)
            have hk := fun z8 z9 z10 => ih (i + 1) (up W' 43 4 (Int32.ofInt (clp v 9))) z8 z9 z10 (by omega) (fun a k q1 q2 q3 => by rw [up_ne2 (by omega)]; exact hFW' a k q1 q2 q3) (fun k hk => by rw [up_ne (by omega)]; exact hWW' k hk) (by
              rw [est, e2]
              exact ⟨(up_at' (by omega)).trans hHW'.1, up_at, (up_at' (by omega)).trans hHW'.2.2⟩)
            refine x_istore (ls' := [_, _, _, _, _, _, _, _, _, _, _]) rfl rfl rfl ?_
            refine x_iload rfl rfl ?_
            refine x_ldc rfl ?_
            refine x_icmp_eq rfl (fun c179 => ?_) (fun c179 => ?_)
            · exact absurd c179 hvn
            refine x_iload rfl rfl ?_
            refine x_ifN_ne rfl (fun c184 => ?_) (fun c184 => ?_)
            rotate_left
            · exact absurd c184 (by first | decide | omega)
            refine x_iload rfl rfl ?_
            refine x_ldc rfl ?_
            refine x_icmp_eq rfl (fun c208 => ?_) (fun c208 => ?_)
            · exact absurd c208 hvn
            refine x_aload_n rfl rfl ?_
            refine x_iconst rfl ?_
            refine x_iload rfl rfl ?_
            refine x_bipush rfl ?_
            refine x_min rfl rfl ?_
            refine x_max rfl rfl ?_
            rw [eclp]
            refine x_putI rfl rfl rfl rfl ?_
            refine x_iincN (q := 1) (ls' := [_, _, _, _, _, _, _, _, _, _, _]) rfl rfl rfl rfl ?_
            refine x_goto rfl ?_
            exact hk _ _ _
    rcases t5 with ⟨f0, h5⟩ | ⟨f1, s, hs, h5, hTs⟩
    · refine x_iload rfl rfl ?_
      refine x_aload rfl rfl ?_
      refine x_getE (y := 2) rfl hl4 rfl hn1 ?_
      refine x_icmpN_ge rfl (fun c85 => ?_) (fun c85 => ?_)
      · exact absurd c85 (by first | decide | omega)
      refine x_aload rfl rfl ?_
      refine x_iload rfl rfl ?_
      refine x_iconstN (q := 5) rfl ?_
      refine x_callV (M' := mi84) (As := [_, _]) (bc1 := 0) (bs1 := 0) (bc2 := 0) (bs2 := 0) rfl rfl rfl rfl ok84 rfl (hl4) (by decide) rfl rfl rfl rfl rfl rfl ?_
      refine s_head hl4 hv0 hl5 hn1 hn12 (by omega) (by omega) ?_
      rw [show V (b + 1) (6 * i + 5) = -1 from (hhd _).trans h5]
      refine x_istore (ls' := [_, _, _, _, _, _, _, _, _, _, _]) rfl rfl rfl ?_
      refine x_iload rfl rfl ?_
      refine x_iconst rfl ?_
      refine x_icmp_eq rfl (fun c101 => ?_) (fun c101 => ?_)
      rotate_left
      · exact absurd rfl c101
      exact hrest V _ _ _ (Or.inl f0) hF hWd hH
    · have hsn : ¬ nI s = -1 := fun z => by
        have z2 := congrArg Int32.toInt z
        rw [nI_toInt (by omega), show ((-1 : Int32)).toInt = -1 from rfl] at z2
        omega
      refine x_iload rfl rfl ?_
      refine x_aload rfl rfl ?_
      refine x_getE (y := 2) rfl hl4 rfl hn1 ?_
      refine x_icmpN_ge rfl (fun c85 => ?_) (fun c85 => ?_)
      · exact absurd c85 (by first | decide | omega)
      refine x_aload rfl rfl ?_
      refine x_iload rfl rfl ?_
      refine x_iconstN (q := 5) rfl ?_
      refine x_callV (M' := mi84) (As := [_, _]) (bc1 := 0) (bs1 := 0) (bc2 := 0) (bs2 := 0) rfl rfl rfl rfl ok84 rfl (hl4) (by decide) rfl rfl rfl rfl rfl rfl ?_
      refine s_head hl4 hv0 hl5 hn1 hn12 (by omega) (by omega) ?_
      rw [show V (b + 1) (6 * i + 5) = nI s from (hhd _).trans h5]
      refine x_istore (ls' := [_, _, _, _, _, _, _, _, _, _, _]) rfl rfl rfl ?_
      refine x_iload rfl rfl ?_
      refine x_iconst rfl ?_
      refine x_icmp_eq rfl (fun c101 => ?_) (fun c101 => ?_)
      · exact absurd c101 hsn
      refine x_aload_n rfl rfl ?_
      refine x_getR (u := .ref _) rfl rfl rfl rfl ?_
      refine x_aload rfl rfl ?_
      refine x_iload rfl rfl ?_
      refine x_aload_n rfl rfl ?_
      refine x_getR (u := .ref _) rfl rfl rfl rfl ?_
      refine x_callV (M' := mi77) (As := [_, _, _]) (bc1 := 0) (bs1 := 0) (bc2 := 0) (bs2 := 0) rfl rfl rfl rfl ok77 rfl rfl (by decide) rfl rfl rfl rfl rfl rfl ?_
      refine hval s _ V _ hs hTs hF hWd (fun W' hSW hbd => ?_)
      refine x_callS (M' := mi79) (As := [_]) (bc1 := 0) (bs1 := 0) (bc2 := 0) (bs2 := 0) rfl rfl rfl rfl ok79 rfl rfl rfl rfl rfl rfl ?_
      refine s_isSo hbd ?_
      skip
      have hFW' : FrH V0 W' := FrS.H hF hSW
      have hWW' : Wrd e W' := fun k hk => (hSW 44 k (by omega)).trans (hWd k hk)
      have hHW' : HrAt ((cl.take i).foldl (hS e) r0) W' := ⟨(hSW 43 3 (by omega)).trans hH.1, (hSW 43 4 (by omega)).trans hH.2.1, (hSW 43 5 (by omega)).trans hH.2.2⟩
      cases hso : soB (c.2.2.2.2.2.2 e) with
      | true =>
        refine x_if_ne rfl (fun c122 => ?_) (fun c122 => ?_)
        rotate_left
        · exact absurd c122 (by first | decide | omega)
        exact hrest W' _ _ _ (Or.inr hso) hFW' hWW' hHW' | false =>
        have e2 : hS e ((cl.take i).foldl (hS e) r0) c = (cl.take i).foldl (hS e) r0 := by
          unfold hS
          rw [if_neg (by rw [hso, f1]; simp)]
        have hk := fun z8 z9 z10 => ih (i + 1) W' z8 z9 z10 (by omega) hFW' hWW' (by rw [est, e2]; exact hHW')
        refine x_if_ne rfl (fun c122 => ?_) (fun c122 => ?_)
        · exact absurd c122 (by first | decide | omega)
        refine x_goto rfl ?_
        refine x_iincN (q := 1) (ls' := [_, _, _, _, _, _, _, _, _, _, _]) rfl rfl rfl rfl ?_
        refine x_goto rfl ?_
        exact hk _ _ _
end Hear2
