/-! ===== tokens of a tape, for both sides ===== -/
set_option maxRecDepth 20000 in
theorem tks_mem {T : Nat → Nat} {n : Nat} : ∀ (m k : Nat) (s : Nat × Nat), s ∈ tks T n m k → s.1 < n ∧ s.2 = tkE T n s.1
  | 0, k, s, h => by cases h
  | m + 1, k, s, h => by
    unfold tks at h
    split at h
    · rename_i hk
      split at h
      · exact tks_mem m (k + 1) s h
      · rcases List.mem_cons.mp h with e | h2
        · rw [e]; exact ⟨hk, rfl⟩
        · exact tks_mem m _ s h2
    · cases h
set_option maxRecDepth 20000 in
theorem tk_dig {T : Nat → Nat} {n a : Nat} (ha : a < n) (hl : ltr (T a) = false) (hd : dgt (T a) = true) : ∀ i, a ≤ i → i < tkE T n a → 48 ≤ T i ∧ T i ≤ 57 := by
  intro i q1 q2
  by_cases e : i = a
  · rw [e]; exact dgt_b hd
  · have etk : tkE T n a = rnE dgt T n (n - (a + 1)) (a + 1) := by
      unfold tkE
      rw [if_neg (by rw [hl]; decide), if_pos hd]
    rw [etk] at q2
    exact dgt_b (rnE_all _ _ i (by omega) q2)
set_option maxRecDepth 20000 in
theorem mtk_ex (T : Nat → Nat) (a b : Nat) : ∃ q : Nat × Nat, MTk T a b q.1 q.2 := by
  cases hl : ltr (T a) with
  | true =>
    by_cases h : ∃ w, w < 27 ∧ eqT mW (woM w) (wlM w) T a b
    · obtain ⟨w, h1, h2⟩ := h
      exact ⟨(w + 1, 0), Or.inl ⟨hl, Or.inr ⟨by show 1 ≤ w + 1; omega, by show w + 1 ≤ 27; omega, h2⟩, rfl⟩⟩
    · exact ⟨(0, 0), Or.inl ⟨hl, Or.inl ⟨rfl, fun w hw z => h ⟨w, hw, z⟩⟩, rfl⟩⟩
  | false =>
    cases hd : dgt (T a) with
    | true => exact ⟨(50, nmM T (b - a) a 0), Or.inr (Or.inl ⟨hl, hd, rfl, rfl⟩)⟩
    | false => exact ⟨(100 + T a, 0), Or.inr (Or.inr ⟨hl, hd, rfl, rfl⟩)⟩
set_option maxRecDepth 20000 in
theorem mtk_uni {T : Nat → Nat} {a b c v c' v' : Nat} (h : MTk T a b c v) (h' : MTk T a b c' v') : c = c' ∧ v = v' := by
  rcases h with ⟨h1, h2, h3⟩ | ⟨h1, h2, h3, h4⟩ | ⟨h1, h2, h3, h4⟩
  · rcases h' with ⟨g1, g2, g3⟩ | ⟨g1, g2, g3, g4⟩ | ⟨g1, g2, g3, g4⟩
    · refine ⟨?_, by omega⟩
      rcases h2 with ⟨e1, n1⟩ | ⟨e1, e2, e3⟩
      · rcases g2 with ⟨f1, m1⟩ | ⟨f1, f2, f3⟩
        · omega
        · exact absurd f3 (n1 _ (by omega))
      · rcases g2 with ⟨f1, m1⟩ | ⟨f1, f2, f3⟩
        · exact absurd e3 (m1 _ (by omega))
        · have := eqM_uni (by omega) (by omega) e3 f3
          omega
    · rw [h1] at g1; cases g1
    · rw [h1] at g1; cases g1
  · rcases h' with ⟨g1, g2, g3⟩ | ⟨g1, g2, g3, g4⟩ | ⟨g1, g2, g3, g4⟩
    · rw [h1] at g1; cases g1
    · exact ⟨h3.trans g3.symm, h4.trans g4.symm⟩
    · rw [h2] at g2; cases g2
  · rcases h' with ⟨g1, g2, g3⟩ | ⟨g1, g2, g3, g4⟩ | ⟨g1, g2, g3, g4⟩
    · rw [h1] at g1; cases g1
    · rw [h2] at g2; cases g2
    · exact ⟨h3.trans g3.symm, h4.trans g4.symm⟩
/-- codes and values of a tape's tokens -/
def TokC (T : Nat → Nat) (n : Nat) (tc tv : Nat → Nat) : Prop := (∀ i s, (Tks T n)[i]? = some s → MTk T s.1 s.2 (tc i) (tv i)) ∧ (∀ i, (Tks T n).length ≤ i → tc i = 0 ∧ tv i = 0) ∧ ∀ i, tc i < 1000 ∧ tv i < 100000000
set_option maxRecDepth 20000 in
theorem tok_all {T : Nat → Nat} {n : Nat} (hn : n ≤ 400) (hT : ∀ k, k < n → T k < 256) : ∃ tc tv : Nat → Nat, TokC T n tc tv := by
  have h : ∀ i : Nat, ∃ q : Nat × Nat, (∀ s, (Tks T n)[i]? = some s → MTk T s.1 s.2 q.1 q.2) ∧ ((Tks T n).length ≤ i → q.1 = 0 ∧ q.2 = 0) ∧ q.1 < 1000 ∧ q.2 < 100000000 := by
    intro i
    by_cases hi : i < (Tks T n).length
    · obtain ⟨q, hq⟩ := mtk_ex T (Tks T n)[i].1 (Tks T n)[i].2
      obtain ⟨m1, m2⟩ := tks_mem n 0 _ (List.getElem_mem hi)
      refine ⟨q, fun s hs => ?_, fun z => absurd z (by omega), ?_⟩
      · rw [List.getElem?_eq_getElem hi] at hs
        rw [← Option.some.inj hs]
        exact hq
      · have hb := hT _ m1
        have hE := tkE_lt (T := T) m1
        rcases hq with ⟨h1, h2, h3⟩ | ⟨h1, h2, h3, h4⟩ | ⟨h1, h2, h3, h4⟩
        · rcases h2 with ⟨e1, _⟩ | ⟨e1, e2, _⟩ <;> omega
        · have hle : nmM T ((Tks T n)[i].2 - (Tks T n)[i].1) (Tks T n)[i].1 0 ≤ 11000000 := nmM_le _ _ 0 (by omega) (fun j a b => (tk_dig m1 h1 h2 j a (by rw [← m2]; omega)).2)
          omega
        · omega
    · refine ⟨(0, 0), fun s hs => ?_, fun _ => ⟨rfl, rfl⟩, by show 0 < 1000; omega, by show 0 < 100000000; omega⟩
      exact absurd (List.getElem?_eq_some_iff.mp hs).1 hi
  obtain ⟨f, hf⟩ := Classical.axiomOfChoice h
  exact ⟨fun i => (f i).1, fun i => (f i).2, fun i s hs => (hf i).1 s hs, fun i hi => (hf i).2.1 hi, fun i => (hf i).2.2⟩
/-- where a token stands -/
def plT (T : Nat → Nat) (n i : Nat) : Nat := ((Tks T n)[i]?.map (fun s => s.1)).getD n
set_option maxRecDepth 20000 in
theorem plT_in {T : Nat → Nat} {n i : Nat} {s : Nat × Nat} (h : (Tks T n)[i]? = some s) : plT T n i = s.1 := by unfold plT; rw [h]; rfl
set_option maxRecDepth 20000 in
theorem plT_end {T : Nat → Nat} {n i : Nat} (h : (Tks T n).length ≤ i) : plT T n i = n := by
  unfold plT
  rw [List.getElem?_eq_none h]
  rfl
set_option maxRecDepth 20000 in
theorem plT_le {T : Nat → Nat} {n : Nat} (i : Nat) : plT T n i ≤ n := by
  by_cases h : i < (Tks T n).length
  · obtain ⟨m1, m2⟩ := tks_mem n 0 _ (List.getElem_mem h)
    rw [plT_in (List.getElem?_eq_getElem h)]
    omega
  · rw [plT_end (by omega)]
    omega
set_option maxRecDepth 20000 in
theorem tr_of {T : Nat → Nat} {n a b t c v : Nat} (ha : a < n) (hb : b = tkE T n a) (hT : T a < 256) (h : CTk T a b t) (h' : MTk T a b c v) : TR t c v ∧ t < 1002000 ∧ t ≠ 256 := by
  rcases h with ⟨h1, h2⟩ | ⟨h1, h2, h3⟩ | ⟨h1, h2, h3⟩
  · rcases h' with ⟨g1, g2, g3⟩ | ⟨g1, g2, g3, g4⟩ | ⟨g1, g2, g3, g4⟩
    · rcases Wr_same h2 g2 with ⟨e1, e2⟩ | ⟨w, e1, e2, e3⟩
      · exact ⟨Or.inl ⟨e2, Or.inr e1⟩, by omega, by omega⟩
      · exact ⟨Or.inr (Or.inl ⟨w, e1, e2, e3⟩), by omega, by omega⟩
    · rw [h1] at g1; cases g1
    · rw [h1] at g1; cases g1
  · rcases h' with ⟨g1, g2, g3⟩ | ⟨g1, g2, g3, g4⟩ | ⟨g1, g2, g3, g4⟩
    · rw [h1] at g1; cases g1
    · have e : nmC T (b - a) a 0 = min (nmM T (b - a) a 0) 1000000 := nm_same _ _ _ _ rfl (fun i q1 q2 => tk_dig ha h1 h2 i q1 (by rw [← hb]; omega))
      rw [← g4] at e
      exact ⟨Or.inr (Or.inr (Or.inl ⟨g3, by omega⟩)), by omega, by omega⟩
    · rw [h2] at g2; cases g2
  · rcases h' with ⟨g1, g2, g3⟩ | ⟨g1, g2, g3, g4⟩ | ⟨g1, g2, g3, g4⟩
    · rw [h1] at g1; cases g1
    · rw [h2] at g2; cases g2
    · exact ⟨Or.inr (Or.inr (Or.inr ⟨by omega, by omega⟩)), by omega, by omega⟩
set_option maxRecDepth 20000 in
theorem ckA_of {o : Bool} {T : Nat → Nat} {n : Nat} {tc tv : Nat → Nat} {V : VIT} (hn : n ≤ 400) (hT : ∀ k, k < n → T k < 256) (hK : TokC T n tc tv) (h : ClT T (Tks T n) V) (h41 : V 41 (Tks T n).length = nI 256) (h42 : V 42 (Tks T n).length = nI n) (h4 : V 37 4 = nI ((Tks T n).length + 1)) (h7 : V 37 7 = nI (if o = true then 1 else 0)) : ∃ ct : Nat → Nat, CkA o (Tks T n).length ct tc tv (plT T n) V ∧ ∀ i, i ≤ (Tks T n).length → (ct i = 256 ↔ i = (Tks T n).length) := by
  have hlen : (Tks T n).length ≤ n - 0 := tks_len n 0
  have hpl := fun i => plT_le (T := T) (n := n) i
  have hall : ∀ i : Nat, ∃ t : Nat, i ≤ (Tks T n).length → V 41 i = nI t ∧ V 42 i = nI (plT T n i) ∧ TR t (tc i) (tv i) ∧ t < 1002000 ∧ (t = 256 ↔ i = (Tks T n).length) := by
    intro i
    by_cases hi : i < (Tks T n).length
    · have hs := List.getElem?_eq_getElem hi
      obtain ⟨m1, m2⟩ := tks_mem n 0 _ (List.getElem_mem hi)
      obtain ⟨t, q1, q2, q3⟩ := h i _ hs
      obtain ⟨r1, r2, r3⟩ := tr_of m1 m2 (hT _ m1) q1 (hK.1 i _ hs)
      exact ⟨t, fun _ => ⟨q2, by rw [plT_in hs]; exact q3, r1, r2, fun z => absurd z r3, fun z => by omega⟩⟩
    · refine ⟨256, fun hi2 => ?_⟩
      have e : i = (Tks T n).length := by omega
      rw [e]
      refine ⟨h41, by rw [plT_end (Nat.le_refl _)]; exact h42, Or.inl ⟨(hK.2.1 _ (Nat.le_refl _)).1, Or.inl rfl⟩, by omega, fun _ => rfl, fun _ => rfl⟩
  obtain ⟨ct, hct⟩ := Classical.axiomOfChoice hall
  refine ⟨ct, ⟨fun i hi => ?_, h4, h7, by omega, fun i hi => (hK.2.1 i hi).1, fun i => ⟨(hK.2.2 i).1, (hK.2.2 i).2, by have := hpl i; omega⟩⟩, fun i hi => (hct i hi).2.2.2.2⟩
  obtain ⟨a1, a2, a3, a4, -⟩ := hct i hi
  exact ⟨a1, a2, a3, a4⟩
/-! ===== the class reads a text ===== -/
def FrQx (V0 V : VIT) : Prop := ∀ a k, ¬ (a = 37 ∧ (k = 1 ∨ (4 ≤ k ∧ k ≤ 7))) → ¬ (a = 38 ∧ (k = 2 ∨ k = 3)) → a ≠ 39 → a ≠ 40 → a ≠ 41 → a ≠ 42 → V a k = V0 a k
set_option maxRecDepth 20000 in
theorem FrK.frQ {V0 V : VIT} (h : FrK V0 V) : FrQx V0 V := fun a k q1 q2 q3 q4 _ _ => h a k (by omega) q2 q3 q4
set_option maxRecDepth 20000 in
theorem FrQx.trans {V0 V1 V2 : VIT} (h1 : FrQx V0 V1) (h2 : FrQx V1 V2) : FrQx V0 V2 := fun a k q1 q2 q3 q4 q5 q6 => (h2 a k q1 q2 q3 q4 q5 q6).trans (h1 a k q1 q2 q3 q4 q5 q6)
section ReadI
variable {d : Nat} {V0 V : VIT} {VL : VLT} {G : VRT} {P : Post} {ext : HL} {o : Bool} {N f nw i p l m : Nat} {ct tc tv pl wm : Nat → Nat}
abbrev pCl (o : Bool) (tc tv : Nat → Nat) (i p : Nat) : PCl := if o = true then pOrdC tc tv i p else pLawC tc tv i p
set_option maxRecDepth 20000 in
theorem x_clause {lv : Int32} {q : Nat} (hnw : nw = if o = true then 36 else 9) (hwm : wm = if o = true then owm else lwm) (hA : CkA o N ct tc tv pl V) (hS : CS i p l V) (h2 : V 38 2 = nI q) (hm : q < 12) (hi : i ≤ N) (hp : p ≤ 50) (hl : l ≤ 2 * i)
  (h1 : ∀ (V' : VIT) (l' i' p' : Nat) (c : Cla), pCl o tc tv i p = (1, i', p', c) → FrK V V' → (∀ j, j < 6 * q → V' 39 j = V 39 j) → (∀ j, j < l → V' 40 j = V 40 j) → CS i' p' l' V' → V' 38 2 = nI (q + 1) → i' ≤ N → p' ≤ 50 → i < i' → l' ≤ 2 * i' → l ≤ l' → CodR V' l l' → ClaV nw wm V' l' q c → Ex (d + 34) mi40 80 [.ref 37, .ref 72, .int lv, .int (nI (if o = true then 1 else 0)), .int (nI q)] [] (LY ++ ext) V' VL (vr G) 0 0 P)
  (h0 : ∀ (V' : VIT) (i' : Nat), (pCl o tc tv i p).1 = 0 → (pCl o tc tv i p).2.1 = i' → FrK V V' → V' 37 1 = nI (pl i') → P (some (.int (nI 0))) (LY ++ ext) V' VL (vr G)) : Ex (d + 34) mi40 54 [.ref 37, .ref 72, .int lv, .int (nI (if o = true then 1 else 0)), .int (nI q)] [] (LY ++ ext) V VL (vr G) 0 0 P := by
  have hO := hA.2.2.1
  cases o with
  | false =>
    have hw : wm = lwm := hwm.trans (if_neg (by decide))
    have hn9 : nw = 9 := hnw.trans (if_neg (by decide))
    subst hw hn9
    have hO3 : V 37 7 = nI 0 := hO
    refine x_aload_n rfl rfl ?_
    refine x_getE (y := 7) rfl rfl rfl hO3 ?_
    refine x_ifN_eq rfl (fun c58 => ?_) (fun c58 => ?_)
    rotate_left
    · exact absurd c58 (by first | decide | omega)
    refine x_aload_n rfl rfl ?_
    refine x_callV (M' := mi51) (As := []) (bc1 := 0) (bs1 := 0) (bc2 := 0) (bs2 := 0) rfl rfl rfl rfl ok51 rfl rfl (by decide) rfl rfl rfl rfl rfl rfl ?_
    refine x_lawClause (d := d) hA hS h2 hm hi hp hl (fun V' l' i' p' c a1 a2 a3 a4 a5 a6 a7 a8 a9 b1 b2 b3 b4 => ?_) (fun V' i' a1 a2 a3 a4 => ?_)
    skip
    · refine x_ifN_ne rfl (fun c75 => ?_) (fun c75 => ?_)
      rotate_left
      · exact absurd c75 (by first | decide | omega)
      exact h1 V' l' i' p' c a1 a2 a3 a4 a5 a6 a7 a8 a9 b1 b2 b3 b4
    · refine x_ifN_ne rfl (fun c75 => ?_) (fun c75 => ?_)
      · exact absurd c75 (by first | decide | omega)
      refine x_iconstN (q := 0) rfl ?_
      refine x_zret rfl rfl (by first | exact Or.inl rfl | exact Or.inr rfl) ?_
      exact h0 V' i' a1 a2 a3 a4 | true =>
    have hw : wm = owm := hwm.trans (if_pos rfl)
    have hn36 : nw = 36 := hnw.trans (if_pos rfl)
    subst hw hn36
    have hO3 : V 37 7 = nI 1 := hO
    refine x_aload_n rfl rfl ?_
    refine x_getE (y := 7) rfl rfl rfl hO3 ?_
    refine x_ifN_eq rfl (fun c58 => ?_) (fun c58 => ?_)
    · exact absurd c58 (by first | decide | omega)
    refine x_aload_n rfl rfl ?_
    refine x_callV (M' := mi52) (As := []) (bc1 := 0) (bs1 := 0) (bc2 := 0) (bs2 := 0) rfl rfl rfl rfl ok52 rfl rfl (by decide) rfl rfl rfl rfl rfl rfl ?_
    refine x_orderClause (d := d) hA hS h2 hm hi hp hl (fun V' l' i' p' c a1 a2 a3 a4 a5 a6 a7 a8 a9 b1 b2 b3 b4 => ?_) (fun V' i' a1 a2 a3 a4 => ?_)
    skip
    · refine x_ifN_eq rfl (fun c65 => ?_) (fun c65 => ?_)
      · exact absurd c65 (by first | decide | omega)
      refine x_goto rfl ?_
      exact h1 V' l' i' p' c a1 a2 a3 a4 a5 a6 a7 a8 a9 b1 b2 b3 b4
    · refine x_ifN_eq rfl (fun c65 => ?_) (fun c65 => ?_)
      rotate_left
      · exact absurd c65 (by first | decide | omega)
      refine x_iconstN (q := 0) rfl ?_
      refine x_zret rfl rfl (by first | exact Or.inl rfl | exact Or.inr rfl) ?_
      exact h0 V' i' a1 a2 a3 a4
set_option maxRecDepth 20000 in
theorem pTxt_s {n m' i p : Nat} : pTxt o tc tv n (m' + 1) i p = if (pCl o tc tv i p).1 = 1 then (if (pCl o tc tv i p).2.1 = n then (1, n, [(pCl o tc tv i p).2.2.2]) else if tc (pCl o tc tv i p).2.1 = 159 then ((pTxt o tc tv n m' ((pCl o tc tv i p).2.1 + 1) (pCl o tc tv i p).2.2.1).1, (pTxt o tc tv n m' ((pCl o tc tv i p).2.1 + 1) (pCl o tc tv i p).2.2.1).2.1, (pCl o tc tv i p).2.2.2 :: (pTxt o tc tv n m' ((pCl o tc tv i p).2.1 + 1) (pCl o tc tv i p).2.2.1).2.2) else (0, (pCl o tc tv i p).2.1, [])) else ((pCl o tc tv i p).1, (pCl o tc tv i p).2.1, []) := rfl
set_option maxRecDepth 20000 in
theorem x_readLoop {lv : Int32} (hnw : nw = if o = true then 36 else 9) (hwm : wm = if o = true then owm else lwm) (hA : CkA o N ct tc tv pl V0) (hE : ∀ i, i ≤ N → (ct i = 256 ↔ i = N))
  (h1 : ∀ (V' : VIT) (l' : Nat) (cl : List Cla), pTxt o tc tv N 12 0 0 = (1, N, cl) → FrK V0 V' → V' 37 1 = -1 → V' 38 2 = nI cl.length → cl.length ≤ 12 → V' 38 3 = nI l' → l' ≤ 800 → CodR V' 0 l' → (∀ j c, cl[j]? = some c → ClaV nw wm V' l' j c) → P (some (.int (nI 1))) (LY ++ ext) V' VL (vr G))
  (h0 : ∀ (V' : VIT) (i' : Nat), (pTxt o tc tv N 12 0 0).1 = 0 → (pTxt o tc tv N 12 0 0).2.1 = i' → FrK V0 V' → V' 37 1 = nI (pl i') → P (some (.int (nI 0))) (LY ++ ext) V' VL (vr G)) :
  ∀ (r q i p l : Nat) (V : VIT) (cl : List Cla), q + r = 12 → cl.length = q → FrK V0 V → CS i p l V → V 38 2 = nI q → i ≤ N → p ≤ 50 → l ≤ 2 * i → CodR V 0 l → (∀ j c, cl[j]? = some c → ClaV nw wm V l j c) → pTxt o tc tv N 12 0 0 = ((pTxt o tc tv N r i p).1, (pTxt o tc tv N r i p).2.1, cl ++ (pTxt o tc tv N r i p).2.2) → Ex (d + 34) mi40 47 [.ref 37, .ref 72, .int lv, .int (nI (if o = true then 1 else 0)), .int (nI q)] [] (LY ++ ext) V VL (vr G) 0 0 P := by
  have hN := hA.2.2.2.1
  intro r
  induction r with
  | zero =>
    intro q i p l V cl hq hcl hF hS h2 hi hp hl hC hall e
    have e2 : pTxt o tc tv N 0 i p = (0, i, []) := rfl
    rw [e2] at e
    refine x_iload rfl rfl ?_
    refine x_bipushN (q := 12) rfl ?_
    refine x_icmpN_ge rfl (fun c51 => ?_) (fun c51 => ?_)
    rotate_left
    · exact absurd c51 (by first | decide | omega)
    refine x_aload_n rfl rfl ?_
    refine x_callV (M' := mi49) (As := []) (bc1 := 0) (bs1 := 0) (bc2 := 0) (bs2 := 0) rfl rfl rfl rfl ok49 rfl rfl (by decide) rfl rfl rfl rfl rfl rfl ?_
    refine x_wrong (hA.frK hF) hS.1 hi ?_
    refine x_zret rfl rfl (by first | exact Or.inl rfl | exact Or.inr rfl) ?_
    exact h0 _ i (by rw [e]) (by rw [e]) (hF.up (by omega)) up_at | succ r ih =>
    intro q i p l V cl hq hcl hF hS h2 hi hp hl hC hall e
    have hA1 := hA.frK hF
    rw [pTxt_s (n := N) (m' := r) (i := i) (p := p)] at e
    refine x_iload rfl rfl ?_
    refine x_bipushN (q := 12) rfl ?_
    refine x_icmpN_ge rfl (fun c51 => ?_) (fun c51 => ?_)
    · exact absurd c51 (by first | decide | omega)
    skip
    refine x_clause (d := d) hnw hwm hA1 hS h2 (by omega) hi hp hl (fun V' l' i' p' c a1 a2 a3 a4 a5 a6 a7 a8 a9 b1 b2 b3 b4 => ?_) (fun V' i' a1 a2 a3 a4 => ?_)
    · have hF' := hF.trans a2
      have hA2 := hA.frK hF'
      have hall' : ∀ j c', (cl ++ [c])[j]? = some c' → ClaV nw wm V' l' j c' := by
        intro j c' hj
        by_cases cj : j < cl.length
        · rw [List.getElem?_append_left cj] at hj
          exact (hall j c' hj).same b2 a4 (fun k hk => a3 k (by omega))
        · have hlt := (List.getElem?_eq_some_iff.mp hj).1
          simp only [List.length_append, List.length_cons, List.length_nil] at hlt
          have ej : j = cl.length := by omega
          rw [ej, List.getElem?_append_right (Nat.le_refl _), Nat.sub_self] at hj
          rw [← Option.some.inj hj, ej, hcl]
          exact b4
      have hC' : CodR V' 0 l' := CodR.join (l1 := l) (hC.same (fun k _ b => a4 k b)) b3
      rw [a1] at e
      have e1 := e
      simp only [if_pos] at e1
      obtain ⟨-, -, hTR, hct⟩ := hA.1 i' a7
      have s59 : ct i' = 59 ↔ tc i' = 159 := hTR.sign (by omega)
      have hEi := hE i' a7
      by_cases cN : i' = N
      · subst cN
        have c256 := hEi.mpr rfl
        rw [if_pos rfl] at e1
        have e3 : pTxt o tc tv i' 12 0 0 = (1, i', cl ++ [c]) := e1
        refine x_aload_n rfl rfl ?_
        refine x_callV (M' := mi48) (As := []) (bc1 := 0) (bs1 := 0) (bc2 := 0) (bs2 := 0) rfl rfl rfl rfl ok48 rfl rfl (by decide) rfl rfl rfl rfl rfl rfl ?_
        refine x_token hA2 a5.1 (Nat.le_refl _) ?_
        refine x_sipushN (q := 256) rfl ?_
        refine x_icmpN_ne rfl (fun c87 => ?_) (fun c87 => ?_)
        · exact absurd c87 (by first | decide | omega)
        refine x_iconstN (q := 1) rfl ?_
        refine x_zret rfl rfl (by first | exact Or.inl rfl | exact Or.inr rfl) ?_
        exact h1 V' l' (cl ++ [c]) e3 hF' a5.2.2.1 (by rw [a6]; simp only [List.length_append, List.length_cons, List.length_nil]; rw [hcl]) (by simp only [List.length_append, List.length_cons, List.length_nil]; omega) a5.2.2.2 (by omega) hC' hall'
      · rw [if_neg cN] at e1
        have c256 : ct i' ≠ 256 := fun z => cN (hEi.mp z)
        by_cases c9 : tc i' = 159
        · have hin : i' < N := by omega
          rw [if_pos c9] at e1
          have e3 : pTxt o tc tv N 12 0 0 = ((pTxt o tc tv N r (i' + 1) p').1, (pTxt o tc tv N r (i' + 1) p').2.1, (cl ++ [c]) ++ (pTxt o tc tv N r (i' + 1) p').2.2) := by
            rw [e1, List.append_assoc]; rfl
          have hcc : (cl ++ [c]).length = q + 1 := by simp only [List.length_append, List.length_cons, List.length_nil]; omega
          have hV5 : ∀ j, up V' 37 5 (nI (i' + 1)) 40 j = V' 40 j := fun j => up_ne2 (by omega)
          have hV6 : ∀ j, up V' 37 5 (nI (i' + 1)) 39 j = V' 39 j := fun j => up_ne2 (by omega)
          refine x_aload_n rfl rfl ?_
          refine x_callV (M' := mi48) (As := []) (bc1 := 0) (bs1 := 0) (bc2 := 0) (bs2 := 0) rfl rfl rfl rfl ok48 rfl rfl (by decide) rfl rfl rfl rfl rfl rfl ?_
          refine x_token hA2 a5.1 a7 ?_
          refine x_sipushN (q := 256) rfl ?_
          refine x_icmpN_ne rfl (fun c87 => ?_) (fun c87 => ?_)
          rotate_left
          · exact absurd c87 (by first | decide | omega)
          refine x_aload_n rfl rfl ?_
          refine x_bipushN (q := 59) rfl ?_
          refine x_callV (M' := mi50) (As := [_]) (bc1 := 0) (bs1 := 0) (bc2 := 0) (bs2 := 0) rfl rfl rfl rfl ok50 rfl rfl (by decide) rfl rfl rfl rfl rfl rfl ?_
          refine x_passed1 hA2 a5.1 a7 (s59.mpr c9) ?_
          refine x_ifN_ne rfl (fun c98 => ?_) (fun c98 => ?_)
          rotate_left
          · exact absurd c98 (by first | decide | omega)
          refine x_iincN (q := 1) (ls' := [_, _, _, _, _]) rfl rfl rfl rfl ?_
          refine x_goto rfl ?_
          exact ih (q + 1) (i' + 1) p' l' _ (cl ++ [c]) (by omega) hcc (hF'.up (by omega)) a5.tok ((up_ne2 (by omega)).trans a6) hin a8 (by omega) (hC'.same (fun k _ _ => hV5 k)) (fun j c' hj => (hall' j c' hj).same (Nat.le_refl _) (fun k _ => hV5 k) (fun k _ => hV6 k)) e3
        · rw [if_neg c9] at e1
          refine x_aload_n rfl rfl ?_
          refine x_callV (M' := mi48) (As := []) (bc1 := 0) (bs1 := 0) (bc2 := 0) (bs2 := 0) rfl rfl rfl rfl ok48 rfl rfl (by decide) rfl rfl rfl rfl rfl rfl ?_
          refine x_token hA2 a5.1 a7 ?_
          refine x_sipushN (q := 256) rfl ?_
          refine x_icmpN_ne rfl (fun c87 => ?_) (fun c87 => ?_)
          rotate_left
          · exact absurd c87 (by first | decide | omega)
          refine x_aload_n rfl rfl ?_
          refine x_bipushN (q := 59) rfl ?_
          refine x_callV (M' := mi50) (As := [_]) (bc1 := 0) (bs1 := 0) (bc2 := 0) (bs2 := 0) rfl rfl rfl rfl ok50 rfl rfl (by decide) rfl rfl rfl rfl rfl rfl ?_
          refine x_passedN hA2 a5.1 a7 (by omega) (fun z => c9 (s59.mp z)) ?_
          refine x_ifN_ne rfl (fun c98 => ?_) (fun c98 => ?_)
          · exact absurd c98 (by first | decide | omega)
          refine x_iconstN (q := 0) rfl ?_
          refine x_zret rfl rfl (by first | exact Or.inl rfl | exact Or.inr rfl) ?_
          exact h0 _ i' (by rw [e1]) (by rw [e1]) (hF'.up (by omega)) up_at
    · rw [if_neg (by omega)] at e
      exact h0 V' i' (by rw [e]; exact a1) (by rw [e]; exact a2) (hF.trans a3) a4
end ReadI
