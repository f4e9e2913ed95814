/-! ===== the fuel is enough; the class reads whole sums and conditions ===== -/
def rk (m : Nat) : Nat := if m = 0 then 7 else if m = 2 then 6 else if m = 4 then 5 else if m = 5 then 3 else if m = 7 then 2 else if m = 9 then 1 else if m = 1 ∨ m = 3 ∨ m = 6 ∨ m = 8 then 0 else 4
set_option maxRecDepth 20000 in
theorem pbd_f {r : PRd} {k : Nat → Nat → Den → PRd} (h : r.1 ≠ 2) (hk : r.1 = 1 → (k r.2.1 r.2.2.1 r.2.2.2).1 ≠ 2) : (pbd r k).1 ≠ 2 := by
  unfold pbd
  split
  · rename_i c
    exact hk c
  · exact h
set_option maxRecDepth 20000 in
theorem prs_fuel {o : Bool} {tc tv : Nat → Nat} {n : Nat} (h0 : ∀ j, n ≤ j → tc j = 0) : ∀ f m dp i p x, i ≤ n → 8 * (n - i) + rk m + 1 ≤ f → (prs o tc tv f m dp i p x).1 ≠ 2
  | 0, _, _, _, _, _, _, h => absurd h (by omega)
  | f + 1, m, dp, i, p, x, hi, hf => by
    have ih := prs_fuel (o := o) (tv := tv) h0 f
    have ok := prs_ok (o := o) (tv := tv) h0 f
    have lt : tc i ≠ 0 → i < n := fun z => Nat.lt_of_not_le (fun q => z (h0 i q))
    -- a step from i on, then a step of a lower rank behind it
    have two : ∀ (a b j : Nat) (dp' : Nat) (k : Nat → Nat → Den → Den), j ≤ n → 8 * (n - j) + rk a + 1 ≤ f → 8 * (n - j) + rk b + 1 ≤ f → (pbd (prs o tc tv f a dp' j p x) (fun i' p' y => prs o tc tv f b dp i' p' (k i' p' y))).1 ≠ 2 := by
      intro a b j dp' k hj ha hb
      refine pbd_f (ih a dp' j p x hj ha) (fun c => ?_)
      obtain ⟨o1, o2, o3⟩ := ok a dp' j p x hj c
      exact ih b dp _ _ _ o2 (by omega)
    rw [prs]
    by_cases hm0 : m = 0
    · subst hm0
      have e : rk 0 = 7 := rfl
      have e1 : rk 2 = 6 := rfl
      have e2 : rk 1 = 0 := rfl
      rw [if_pos rfl]
      exact two 2 1 i dp (fun _ _ y => y) hi (by omega) (by omega)
    rw [if_neg hm0]
    by_cases hm1 : m = 1
    · subst hm1
      have e1 : rk 2 = 6 := rfl
      have e2 : rk 1 = 0 := rfl
      rw [if_pos rfl]
      by_cases c : tc i = 5
      · have hin := lt (by omega)
        rw [if_pos c]
        exact two 2 1 (i + 1) dp (fun _ _ y => dOr x y) hin (by omega) (by omega)
      · rw [if_neg c]; show (1 : Nat) ≠ 2; omega
    rw [if_neg hm1]
    by_cases hm2 : m = 2
    · subst hm2
      have e : rk 2 = 6 := rfl
      have e1 : rk 4 = 5 := rfl
      have e2 : rk 3 = 0 := rfl
      rw [if_pos rfl]
      exact two 4 3 i dp (fun _ _ y => y) hi (by omega) (by omega)
    rw [if_neg hm2]
    by_cases hm3 : m = 3
    · subst hm3
      have e1 : rk 4 = 5 := rfl
      have e2 : rk 3 = 0 := rfl
      rw [if_pos rfl]
      by_cases c : tc i = 6
      · have hin := lt (by omega)
        rw [if_pos c]
        exact two 4 3 (i + 1) dp (fun _ _ y => dAnd x y) hin (by omega) (by omega)
      · rw [if_neg c]; show (1 : Nat) ≠ 2; omega
    rw [if_neg hm3]
    by_cases hm4 : m = 4
    · subst hm4
      have e : rk 4 = 5 := rfl
      have e1 : rk 10 = 4 := rfl
      obtain ⟨n1, n2⟩ := nrun_ok (c := 7) h0 (by omega) (by omega) 401 i hi
      rw [if_pos rfl]
      refine pbd_f (ih 10 dp _ p x n1 (by omega)) (fun c => ?_)
      show (1 : Nat) ≠ 2
      omega
    rw [if_neg hm4]
    by_cases hm5 : m = 5
    · subst hm5
      have e : rk 5 = 3 := rfl
      have e1 : rk 7 = 2 := rfl
      have e2 : rk 6 = 0 := rfl
      rw [if_pos rfl]
      exact two 7 6 i dp (fun _ _ y => y) hi (by omega) (by omega)
    rw [if_neg hm5]
    by_cases hm6 : m = 6
    · subst hm6
      have e1 : rk 7 = 2 := rfl
      have e2 : rk 6 = 0 := rfl
      rw [if_pos rfl]
      by_cases c : tc i = 143 ∨ tc i = 145
      · have hin := lt (by omega)
        rw [if_pos c]
        exact two 7 6 (i + 1) dp (fun _ _ y => dBin (tc i - 100) x y) hin (by omega) (by omega)
      · rw [if_neg c]; show (1 : Nat) ≠ 2; omega
    rw [if_neg hm6]
    by_cases hm7 : m = 7
    · subst hm7
      have e : rk 7 = 2 := rfl
      have e1 : rk 9 = 1 := rfl
      have e2 : rk 8 = 0 := rfl
      rw [if_pos rfl]
      exact two 9 8 i dp (fun _ _ y => y) hi (by omega) (by omega)
    rw [if_neg hm7]
    by_cases hm8 : m = 8
    · subst hm8
      have e1 : rk 9 = 1 := rfl
      have e2 : rk 8 = 0 := rfl
      rw [if_pos rfl]
      by_cases c : tc i = 142 ∨ tc i = 147 ∨ tc i = 137
      · have hin := lt (by omega)
        rw [if_pos c]
        exact two 9 8 (i + 1) dp (fun _ _ y => dBin (tc i - 100) x y) hin (by omega) (by omega)
      · rw [if_neg c]; show (1 : Nat) ≠ 2; omega
    rw [if_neg hm8]
    by_cases hm9 : m = 9
    · subst hm9
      have e1 : rk 5 = 3 := rfl
      rw [if_pos rfl]
      by_cases c : tc i = 191
      · have hin := lt (by omega)
        rw [if_pos c]
        split
        · show (0 : Nat) ≠ 2; omega
        · refine pbd_f (ih 5 (dp + 1) (i + 1) p x hin (by omega)) (fun c1 => ?_)
          split
          · show (1 : Nat) ≠ 2; omega
          · show (0 : Nat) ≠ 2; omega
      · rw [if_neg c]
        repeat' split
        all_goals first | (show (0 : Nat) ≠ 2; omega) | (show (1 : Nat) ≠ 2; omega)
    rw [if_neg hm9]
    have e : rk m = 4 := by
      unfold rk
      rw [if_neg hm0, if_neg hm2, if_neg hm4, if_neg hm5, if_neg hm7, if_neg hm9, if_neg (by omega)]
    have e1 : rk 0 = 7 := rfl
    have e2 : rk 5 = 3 := rfl
    by_cases c : tc i = 140
    · have hin := lt (by omega)
      rw [if_pos c]
      split
      · show (0 : Nat) ≠ 2; omega
      · refine pbd_f (ih 0 (dp + 1) (i + 1) p x hin (by omega)) (fun c1 => ?_)
        split
        · show (1 : Nat) ≠ 2; omega
        · show (0 : Nat) ≠ 2; omega
    · rw [if_neg c]
      refine pbd_f (ih 5 dp i p x hi (by omega)) (fun c1 => ?_)
      obtain ⟨o1, o2, o3⟩ := ok 5 dp i p x hi c1
      split
      · rename_i c2
        have hin2 : (prs o tc tv f 5 dp i p x).2.1 < n := Nat.lt_of_not_le (fun q => by have := h0 _ q; omega)
        refine pbd_f (ih 5 dp _ _ x hin2 (by omega)) (fun c3 => ?_)
        show (1 : Nat) ≠ 2
        omega
      · show (0 : Nat) ≠ 2; omega
set_option maxRecDepth 20000 in
theorem pSum_f {o : Bool} {tc tv : Nat → Nat} {n i p : Nat} (h0 : ∀ j, n ≤ j → tc j = 0) (hi : i ≤ n) (hn : n ≤ 400) : (pSum o tc tv i p).1 ≠ 2 := prs_fuel h0 PFuel 5 0 i p dz hi (by have : rk 5 = 3 := rfl; show 8 * (n - i) + rk 5 + 1 ≤ 20000; omega)
set_option maxRecDepth 20000 in
theorem pTest_f {o : Bool} {tc tv : Nat → Nat} {n i p : Nat} (h0 : ∀ j, n ≤ j → tc j = 0) (hi : i ≤ n) (hn : n ≤ 400) : (pTest o tc tv i p).1 ≠ 2 := prs_fuel h0 PFuel 0 0 i p dz hi (by have : rk 0 = 7 := rfl; show 8 * (n - i) + rk 0 + 1 ≤ 20000; omega)
/-! ===== clauses: their frame, what tells them ===== -/
def FrTx (V0 V : VIT) : Prop := ∀ a k, ¬ (a = 37 ∧ (k = 1 ∨ k = 5 ∨ k = 6)) → ¬ (a = 38 ∧ k = 3) → a ≠ 39 → a ≠ 40 → V a k = V0 a k
set_option maxRecDepth 20000 in
theorem FrTx.refl {V : VIT} : FrTx V V := fun _ _ _ _ _ _ => rfl
set_option maxRecDepth 20000 in
theorem FrRC.frT {V0 V : VIT} (h : FrRC V0 V) : FrTx V0 V := fun a k q1 q2 _ q4 => h a k q1 q2 q4
set_option maxRecDepth 20000 in
theorem FrTx.trans {V0 V1 V2 : VIT} (h1 : FrTx V0 V1) (h2 : FrTx V1 V2) : FrTx V0 V2 := fun a k q1 q2 q3 q4 => (h2 a k q1 q2 q3 q4).trans (h1 a k q1 q2 q3 q4)
set_option maxRecDepth 20000 in
theorem FrTx.hd {V0 V : VIT} {k : Nat} {x : Int32} (h : FrTx V0 V) : FrTx V0 (up V 39 k x) := fun a j q1 q2 q3 q4 => by rw [up_ne2 (by omega)]; exact h a j q1 q2 q3 q4
set_option maxRecDepth 20000 in
theorem FrTx.put {V0 V : VIT} {l m : Nat} {x y z : Int32} (h : FrTx V0 V) : FrTx V0 (up (up (up V 40 l x) 40 m y) 38 3 z) := fun a j q1 q2 q3 q4 => by rw [up_ne2 (by omega), up_ne2 (by omega), up_ne2 (by omega)]; exact h a j q1 q2 q3 q4
set_option maxRecDepth 20000 in
theorem FrTx.up {V0 V : VIT} {k : Nat} {x : Int32} (h : FrTx V0 V) (hk : k = 1 ∨ k = 5 ∨ k = 6) : FrTx V0 (up V 37 k x) := fun a j q1 q2 q3 q4 => by rw [up_ne2 (by omega)]; exact h a j q1 q2 q3 q4
set_option maxRecDepth 20000 in
theorem CkA.frT {o : Bool} {N : Nat} {ct tc tv pl : Nat → Nat} {V V' : VIT} (h : CkA o N ct tc tv pl V) (hF : FrTx V V') : CkA o N ct tc tv pl V' := by
  obtain ⟨h1, h2, h3, h4⟩ := h
  refine ⟨fun i hi => ?_, by rw [hF 37 4 (by omega) (by omega) (by omega) (by omega)]; exact h2, by rw [hF 37 7 (by omega) (by omega) (by omega) (by omega)]; exact h3, h4⟩
  rw [hF 41 i (by omega) (by omega) (by omega) (by omega), hF 42 i (by omega) (by omega) (by omega) (by omega)]
  exact h1 i hi
set_option maxRecDepth 20000 in
theorem CS.hd {i p l k : Nat} {x : Int32} {V : VIT} (h : CS i p l V) : CS i p l (up V 39 k x) := by
  refine ⟨?_, ?_, ?_, ?_⟩
  · rw [up_ne2 (by omega)]; exact h.1
  · rw [up_ne2 (by omega)]; exact h.2.1
  · rw [up_ne2 (by omega)]; exact h.2.2.1
  · rw [up_ne2 (by omega)]; exact h.2.2.2
def CodR (V : VIT) (l l' : Nat) : Prop := ∀ k, l ≤ k → k < l' → V 40 k = nI (cdv V k) ∧ cdv V k < 1000000
set_option maxRecDepth 20000 in
theorem CodR.same {V V' : VIT} {l l' : Nat} (h : CodR V l l') (hV : ∀ k, l ≤ k → k < l' → V' 40 k = V 40 k) : CodR V' l l' := fun k a b => by
  rw [cdv_same (hV k a b), hV k a b]
  exact h k a b
set_option maxRecDepth 20000 in
theorem CodR.join {V : VIT} {l l1 l2 : Nat} (h : CodR V l l1) (h2 : CodR V l1 l2) : CodR V l l2 := fun k a b => by
  by_cases c : k < l1
  · exact h k a c
  · exact h2 k (by omega) b
/-- a code that ends tells x, from s on -/
def TelV (nw : Nat) (wm : Nat → Nat) (V : VIT) (l s : Nat) (x : Den) : Prop := ∃ l1, SegC nw 30 wm V s l1 x ∧ V 40 l1 = nI 0 ∧ l1 + 2 ≤ l
set_option maxRecDepth 20000 in
theorem TelV.same {nw l l' s : Nat} {wm : Nat → Nat} {V V' : VIT} {x : Den} (h : TelV nw wm V l s x) (hl : l ≤ l') (hV : ∀ k, k < l → V' 40 k = V 40 k) : TelV nw wm V' l' s x := by
  obtain ⟨l1, h1, h2, h3⟩ := h
  exact ⟨l1, h1.same (fun k _ b => hV k (by omega)), by rw [hV l1 (by omega)]; exact h2, by omega⟩
section ReadF
variable {d : Nat} {V0 V : VIT} {VL : VLT} {G : VRT} {P : Post} {ext : HL} {o : Bool} {N f nw i p l m : Nat} {ct tc tv pl wm : Nat → Nat}
set_option maxRecDepth 20000 in
theorem x_setHead {k x : Nat} (h2 : V 38 2 = nI (m + 1)) (hm : m < 12) (hk : k < 6) (hP : P none (LY ++ ext) (up V 39 (6 * m + k) (nI x)) VL (vr G)) : Ex d mi85 0 (entL [.ref 38, .int (nI k), .int (nI x)] 3) [] (LY ++ ext) V VL (vr G) 0 0 P := by
  rw [show 6 * m + k = (m + 1 - 1) * 6 + k by omega] at hP
  refine x_aload_n rfl rfl ?_
  refine x_getE (y := 2) rfl rfl rfl h2 ?_
  refine x_ifN_le rfl (fun c4 => ?_) (fun c4 => ?_)
  · exact absurd c4 (by first | decide | omega)
  refine x_iload_n rfl rfl ?_
  refine x_ifN_lt rfl ?_
  refine x_iload_n rfl rfl ?_
  refine x_bipushN (q := 6) rfl ?_
  refine x_icmpN_ge rfl (fun c14 => ?_) (fun c14 => ?_)
  · exact absurd c14 (by first | decide | omega)
  refine x_aload_n rfl rfl ?_
  refine x_getR (u := .ref _) rfl rfl rfl rfl ?_
  refine x_aload_n rfl rfl ?_
  refine x_getE (y := 2) rfl rfl rfl h2 ?_
  refine x_iconstN (q := 1) rfl ?_
  refine x_isubN rfl ?_
  refine x_bipushN (q := 6) rfl ?_
  refine x_imulN rfl ?_
  refine x_iload_n rfl rfl ?_
  refine x_iaddN rfl ?_
  refine x_iload_n rfl rfl ?_
  refine x_iasN (j := (m + 1 - 1) * 6 + k) rfl rfl (rfl) (by omega) ?_
  refine x_vret rfl rfl ?_
  exact hP
set_option maxRecDepth 20000 in
theorem x_ws {k : Nat} (hnw : nw = if o = true then 36 else 9) (hwm : wm = if o = true then owm else lwm) (hA : CkA o N ct tc tv pl V) (hS : CS i p l V) (h2 : V 38 2 = nI (m + 1)) (hm : m < 12) (hi : i ≤ N) (hp : p ≤ 50) (hl : l + 2 ≤ 2 * i) (hk : 2 ≤ k) (hk2 : k < 6)
  (h1 : (pSum o tc tv i p).1 = 1 → ∀ (V' : VIT) (l' : Nat), FrTx V V' → (∀ j, j ≠ 6 * m + k → V' 39 j = V 39 j) → V' 39 (6 * m + k) = nI l → (∀ j, j < l → V' 40 j = V 40 j) → CS (pSum o tc tv i p).2.1 (pSum o tc tv i p).2.2.1 l' V' → l' ≤ 2 * (pSum o tc tv i p).2.1 → l ≤ l' → CodR V' l l' → TelV nw wm V' l' l (pSum o tc tv i p).2.2.2 → P (some (.int (nI 1))) (LY ++ ext) V' VL (vr G))
  (h0 : (pSum o tc tv i p).1 = 0 → ∀ V' : VIT, FrTx V V' → V' 37 1 = nI (pl (pSum o tc tv i p).2.1) → P (some (.int (nI 0))) (LY ++ ext) V' VL (vr G)) : Ex (d + 30) mi55 0 (entL [.ref 37, .int (nI k)] 2) [] (LY ++ ext) V VL (vr G) 0 0 P := by
  have hN := hA.2.2.2.1
  have hf := pSum_f (o := o) (tv := tv) (p := p) hA.2.2.2.2.1 hi hN
  have hFs : FrTx V (up V 39 (6 * m + k) (nI l)) := FrTx.refl.hd
  have hA1 := hA.frT hFs
  have hsum := (rc_sums (V0 := up V 39 (6 * m + k) (nI l)) (VL := VL) (G := G) (ext := ext) hA1 hnw hwm PFuel).1
  have e39 : ∀ {V1 : VIT}, FrRC (up V 39 (6 * m + k) (nI l)) V1 → (∀ j, j ≠ 6 * m + k → V1 39 j = V 39 j) ∧ V1 39 (6 * m + k) = nI l := fun {V1} hF => ⟨fun j hj => by rw [hF 39 j (by omega) (by omega) (by omega), up_ne2 (by omega)], by rw [hF 39 _ (by omega) (by omega) (by omega)]; exact up_at⟩
  refine x_aload_n rfl rfl ?_
  refine x_getR (u := .ref _) rfl rfl rfl rfl ?_
  refine x_iload_n rfl rfl ?_
  refine x_aload_n rfl rfl ?_
  refine x_getR (u := .ref _) rfl rfl rfl rfl ?_
  refine x_getE (y := 3) rfl rfl rfl hS.2.2.2 ?_
  refine x_callV (M' := mi85) (As := [_, _]) (bc1 := 0) (bs1 := 0) (bc2 := 0) (bs2 := 0) rfl rfl rfl rfl ok85 rfl rfl (by decide) rfl rfl rfl rfl rfl rfl ?_
  refine x_setHead h2 hm hk2 ?_
  refine x_aload_n rfl rfl ?_
  refine x_iconstN (q := 0) rfl ?_
  refine x_callV (M' := mi59) (As := [_]) (bc1 := 0) (bs1 := 0) (bc2 := 0) (bs2 := 0) rfl rfl rfl rfl ok59 rfl rfl (by decide) rfl rfl rfl rfl rfl rfl ?_
  refine hsum 0 i p dz _ (d + 29) l (by omega) (by omega) hi hp FrRC.refl hS.hd (by omega) hf _ (fun c V1 l1 hF1 hk1 g1 b1 sg1 => ?_) (fun c V1 hF1 g1 => ?_)
  skip
  · have hs1 := sg1.1
    have o2 := (prs_ok (o := o) (tv := tv) hA.2.2.2.2.1 PFuel 5 0 i p dz hi c).2.1
    change CS (pSum o tc tv i p).2.1 (pSum o tc tv i p).2.2.1 l1 V1 at g1
    change l1 + 2 * i ≤ l + 2 * (pSum o tc tv i p).2.1 at b1
    change (pSum o tc tv i p).2.1 ≤ N at o2
    obtain ⟨a1, a2⟩ := e39 hF1
    refine x_ifN_ne rfl (fun c20 => ?_) (fun c20 => ?_)
    rotate_left
    · exact absurd c20 (by first | decide | omega)
    refine x_aload_n rfl rfl ?_
    refine x_getR (u := .ref _) rfl rfl rfl rfl ?_
    refine x_iconstN (q := 0) rfl ?_
    refine x_iconstN (q := 0) rfl ?_
    refine x_callV (M' := mi86) (As := [_, _]) (bc1 := 0) (bs1 := 0) (bc2 := 0) (bs2 := 0) rfl rfl rfl rfl ok86 rfl rfl (by decide) rfl rfl rfl rfl rfl rfl ?_
    refine x_putC g1.2.2.2 (by omega) ?_
    refine x_pop rfl rfl ?_
    refine x_iconstN (q := 1) rfl ?_
    refine x_zret rfl rfl (by first | exact Or.inl rfl | exact Or.inr rfl) ?_
    refine h1 c _ (l1 + 2) (hFs.trans hF1.frT).put (fun j hj => ?_) ?_ (fun j hj => ?_) g1.put (by omega) (by omega) (CodR.join (l1 := l1) (CodR.same sg1.2.1 (fun k _ b => put_lt b)) ?_) ⟨l1, (SegC.mono sg1 (by omega)).put (Nat.le_refl _), put_0, by omega⟩
    · rw [up_ne (by omega), up_ne (by omega), up_ne (by omega)]; exact a1 j hj
    · rw [up_ne (by omega), up_ne (by omega), up_ne (by omega)]; exact a2
    · rw [put_lt (by omega), hk1 j hj, up_ne2 (by omega)]
    · exact seg_cells (l := l1) (fun k a b => absurd b (by omega)) put_0 put_1 (by omega) (by omega)
  · refine x_ifN_ne rfl (fun c20 => ?_) (fun c20 => ?_)
    · exact absurd c20 (by first | decide | omega)
    refine x_iconstN (q := 0) rfl ?_
    refine x_zret rfl rfl (by first | exact Or.inl rfl | exact Or.inr rfl) ?_
    exact h0 c V1 (hFs.trans hF1.frT) g1
set_option maxRecDepth 20000 in
theorem x_cond0 (hA : CkA o N ct tc tv pl V) (hS : CS i p l V) (hi : i ≤ N) (h4 : tc i ≠ 4) (hP : P (some (.int (nI 1))) (LY ++ ext) V VL (vr G)) : Ex (d + 30) mi54 0 (entL [.ref 37] 1) [] (LY ++ ext) V VL (vr G) 0 0 P := by
  have hct := (hA.1 i hi).2.2.2
  have w : ct i = 310 ↔ tc i = 4 := (hA.1 i hi).2.2.1.word (w := 10) (by omega)
  refine x_aload_n rfl rfl ?_
  refine x_callV (M' := mi48) (As := []) (bc1 := 0) (bs1 := 0) (bc2 := 0) (bs2 := 0) rfl rfl rfl rfl ok48 rfl rfl (by decide) rfl rfl rfl rfl rfl rfl ?_
  refine x_token hA hS.1 hi ?_
  refine x_sipushN (q := 310) rfl ?_
  refine x_icmpN_eq rfl (fun c7 => ?_) (fun c7 => ?_)
  · exact absurd c7 (by first | decide | omega)
  refine x_iconstN (q := 1) rfl ?_
  refine x_zret rfl rfl (by first | exact Or.inl rfl | exact Or.inr rfl) ?_
  exact hP
set_option maxRecDepth 20000 in
theorem x_cond1 (hnw : nw = if o = true then 36 else 9) (hwm : wm = if o = true then owm else lwm) (hA : CkA o N ct tc tv pl V) (hS : CS i p l V) (h2 : V 38 2 = nI (m + 1)) (hm : m < 12) (hi : i ≤ N) (hp : p ≤ 50) (hl : l ≤ 2 * i) (h4 : tc i = 4)
  (h1 : (pTest o tc tv (i + 1) p).1 = 1 → ∀ (V' : VIT) (l' : Nat), FrTx V V' → (∀ j, j ≠ 6 * m + 5 → V' 39 j = V 39 j) → V' 39 (6 * m + 5) = nI l → (∀ j, j < l → V' 40 j = V 40 j) → CS (pTest o tc tv (i + 1) p).2.1 (pTest o tc tv (i + 1) p).2.2.1 l' V' → l' ≤ 2 * (pTest o tc tv (i + 1) p).2.1 → l ≤ l' → CodR V' l l' → TelV nw wm V' l' l (pTest o tc tv (i + 1) p).2.2.2 → P (some (.int (nI 1))) (LY ++ ext) V' VL (vr G))
  (h0 : (pTest o tc tv (i + 1) p).1 = 0 → ∀ V' : VIT, FrTx V V' → V' 37 1 = nI (pl (pTest o tc tv (i + 1) p).2.1) → P (some (.int (nI 0))) (LY ++ ext) V' VL (vr G)) : Ex (d + 32) mi54 0 (entL [.ref 37] 1) [] (LY ++ ext) V VL (vr G) 0 0 P := by
  have hN := hA.2.2.2.1
  have hct := (hA.1 i hi).2.2.2
  have w : ct i = 310 ↔ tc i = 4 := (hA.1 i hi).2.2.1.word (w := 10) (by omega)
  have hin : i < N := Nat.lt_of_not_le (fun z => by have := hA.2.2.2.2.1 i z; omega)
  have hf := pTest_f (o := o) (tv := tv) (p := p) hA.2.2.2.2.1 (show i + 1 ≤ N from hin) hN
  have hFs : FrTx V (up (up V 37 5 (nI (i + 1))) 39 (6 * m + 5) (nI l)) := (FrTx.refl.up (by omega)).hd
  have hA1 := hA.frT hFs
  have htest := (rc_tests (V0 := up (up V 37 5 (nI (i + 1))) 39 (6 * m + 5) (nI l)) (VL := VL) (G := G) (ext := ext) hA1 hnw hwm PFuel).1
  have e39 : ∀ {V1 : VIT}, FrRC (up (up V 37 5 (nI (i + 1))) 39 (6 * m + 5) (nI l)) V1 → (∀ j, j ≠ 6 * m + 5 → V1 39 j = V 39 j) ∧ V1 39 (6 * m + 5) = nI l := fun {V1} hF => ⟨fun j hj => by rw [hF 39 j (by omega) (by omega) (by omega), up_ne2 (by omega), up_ne2 (by omega)], by rw [hF 39 _ (by omega) (by omega) (by omega)]; exact up_at⟩
  refine x_aload_n rfl rfl ?_
  refine x_callV (M' := mi48) (As := []) (bc1 := 0) (bs1 := 0) (bc2 := 0) (bs2 := 0) rfl rfl rfl rfl ok48 rfl rfl (by decide) rfl rfl rfl rfl rfl rfl ?_
  refine x_token hA hS.1 hi ?_
  refine x_sipushN (q := 310) rfl ?_
  refine x_icmpN_eq rfl (fun c7 => ?_) (fun c7 => ?_)
  rotate_left
  · exact absurd c7 (by first | decide | omega)
  refine x_aload_n rfl rfl ?_
  refine x_dup rfl rfl ?_
  refine x_getE (y := 5) rfl rfl rfl hS.1 ?_
  refine x_iconstN (q := 1) rfl ?_
  refine x_iaddN rfl ?_
  refine x_putI rfl rfl rfl rfl ?_
  refine x_aload_n rfl rfl ?_
  refine x_getR (u := .ref _) rfl rfl rfl rfl ?_
  refine x_iconstN (q := 5) rfl ?_
  refine x_aload_n rfl rfl ?_
  refine x_getR (u := .ref _) rfl rfl rfl rfl ?_
  refine x_getE (y := 3) rfl rfl rfl hS.tok.2.2.2 ?_
  refine x_callV (M' := mi85) (As := [_, _]) (bc1 := 0) (bs1 := 0) (bc2 := 0) (bs2 := 0) rfl rfl rfl rfl ok85 rfl rfl (by decide) rfl rfl rfl rfl rfl rfl ?_
  refine x_setHead ((up_ne2 (by omega)).trans h2) hm (by omega) ?_
  refine x_aload_n rfl rfl ?_
  refine x_iconstN (q := 0) rfl ?_
  refine x_callV (M' := mi56) (As := [_]) (bc1 := 0) (bs1 := 0) (bc2 := 0) (bs2 := 0) rfl rfl rfl rfl ok56 rfl rfl (by decide) rfl rfl rfl rfl rfl rfl ?_
  refine htest 0 (i + 1) p dz _ (d + 31) l (by omega) (by omega) hin hp FrRC.refl hS.tok.hd (by omega) hf _ (fun c V1 l1 hF1 hk1 g1 b1 sg1 => ?_) (fun c V1 hF1 g1 => ?_)
  skip
  · have hs1 := sg1.1
    have o2 := (prs_ok (o := o) (tv := tv) hA.2.2.2.2.1 PFuel 0 0 (i + 1) p dz hin c).2.1
    change CS (pTest o tc tv (i + 1) p).2.1 (pTest o tc tv (i + 1) p).2.2.1 l1 V1 at g1
    change l1 + 2 * (i + 1) ≤ l + 2 * (pTest o tc tv (i + 1) p).2.1 at b1
    change (pTest o tc tv (i + 1) p).2.1 ≤ N at o2
    obtain ⟨a1, a2⟩ := e39 hF1
    refine x_ifN_ne rfl (fun c42 => ?_) (fun c42 => ?_)
    rotate_left
    · exact absurd c42 (by first | decide | omega)
    refine x_aload_n rfl rfl ?_
    refine x_getR (u := .ref _) rfl rfl rfl rfl ?_
    refine x_iconstN (q := 0) rfl ?_
    refine x_iconstN (q := 0) rfl ?_
    refine x_callV (M' := mi86) (As := [_, _]) (bc1 := 0) (bs1 := 0) (bc2 := 0) (bs2 := 0) rfl rfl rfl rfl ok86 rfl rfl (by decide) rfl rfl rfl rfl rfl rfl ?_
    refine x_putC g1.2.2.2 (by omega) ?_
    refine x_pop rfl rfl ?_
    refine x_iconstN (q := 1) rfl ?_
    refine x_zret rfl rfl (by first | exact Or.inl rfl | exact Or.inr rfl) ?_
    refine h1 c _ (l1 + 2) (hFs.trans hF1.frT).put (fun j hj => ?_) ?_ (fun j hj => ?_) g1.put (by omega) (by omega) (CodR.join (l1 := l1) (CodR.same sg1.2.1 (fun k _ b => put_lt b)) ?_) ⟨l1, (SegC.mono sg1 (by omega)).put (Nat.le_refl _), put_0, by omega⟩
    · rw [up_ne (by omega), up_ne (by omega), up_ne (by omega)]; exact a1 j hj
    · rw [up_ne (by omega), up_ne (by omega), up_ne (by omega)]; exact a2
    · rw [put_lt (by omega), hk1 j hj, up_ne2 (by omega), up_ne2 (by omega)]
    · exact seg_cells (l := l1) (fun k a b => absurd b (by omega)) put_0 put_1 (by omega) (by omega)
  · refine x_ifN_ne rfl (fun c42 => ?_) (fun c42 => ?_)
    · exact absurd c42 (by first | decide | omega)
    refine x_iconstN (q := 0) rfl ?_
    refine x_zret rfl rfl (by first | exact Or.inl rfl | exact Or.inr rfl) ?_
    exact h0 c V1 (hFs.trans hF1.frT) g1
end ReadF
