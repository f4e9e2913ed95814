/-! ===== the model tells sums ===== -/
def EvL (V0 : VIT) (VL : VLT) (G : VRT) (ext : HL) (B : Nat) (e : Env) (D : Nat) (M : MI) (pc : Nat) (ls : List Value) (V : VIT) (l b : Nat) (r : PRd) : Prop :=
  ∀ P : Post, (∀ (v : Int64) (V' : VIT) (b' : Nat), FrE V0 V' → At B r.2.1 b' V' → Rel l b (r.2.2.2 e) v b' → P (some (.long v)) (LY ++ ext) V' VL (vr G)) → Ex D M pc ls [] (LY ++ ext) V VL (vr G) 0 0 P
set_option maxRecDepth 20000 in
theorem pbd_1 {r : PRd} {k : Nat → Nat → Den → PRd} (h : (pbd r k).1 = 1) : r.1 = 1 ∧ pbd r k = k r.2.1 r.2.2.1 r.2.2.2 := by
  by_cases c : r.1 = 1
  · exact ⟨c, if_pos c⟩
  · have e : pbd r k = r := if_neg c
    rw [e] at h; exact absurd h c
set_option maxRecDepth 20000 in
theorem rel_bin {l b0 b b' b2 op : Nat} {ox oy : Option Int} {v w r u : Int64} (h1 : Rel l b0 ox v b) (h2 : Rel l b oy w b') (h3 : Rel l b' (bndI r.toInt) u b2) (hj : ∀ a c : Int, v.toInt = a → w.toInt = c → -1000000000 ≤ a → a ≤ 1000000000 → -1000000000 ≤ c → c ≤ 1000000000 → jn op a c = bndI r.toInt) : Rel l b0 (ox.bind (fun a => oy.bind (fun c => jn op a c))) u b2 := by
  constructor
  · intro hl h0
    obtain ⟨hs, hn⟩ := h1.1 hl h0
    cases ox with
    | none =>
      have e1 := hn rfl
      have e2 := h2.2 (Or.inr e1)
      have e3 := h3.2 (Or.inr (by omega))
      exact ⟨fun a ha => (by cases ha), fun _ => by omega⟩
    | some a =>
      obtain ⟨q1, q2, q3, q4⟩ := hs a rfl
      obtain ⟨hs2, hn2⟩ := h2.1 hl q4
      cases oy with
      | none =>
        have e2 := hn2 rfl
        have e3 := h3.2 (Or.inr e2)
        exact ⟨fun a ha => (by cases ha), fun _ => by omega⟩
      | some c =>
        obtain ⟨r1, r2, r3, r4⟩ := hs2 c rfl
        have e := hj a c q1 r1 q2 q3 r2 r3
        show (∀ a', jn op a c = some a' → _) ∧ (jn op a c = none → _)
        rw [e]
        exact h3.1 hl r4
  · intro h
    have e1 := h1.2 h
    have e2 := h2.2 (by omega)
    have e3 := h3.2 (by omega)
    omega
set_option maxRecDepth 20000 in
theorem rel_zero {l b0 b b' b3 b2 op : Nat} {ox oy o3 : Option Int} {v w u : Int64} (hl1 : l ≤ 1) (h1 : Rel l b0 ox v b) (h2 : Rel l b oy w b') (hw : w.toInt = 0) (h4 : (l = 1 → b3 = 1) ∧ (l = 0 → b3 = b')) (h3 : Rel l b3 o3 u b2) (hj : ∀ a : Int, jn op a 0 = none) : Rel l b0 (ox.bind (fun a => oy.bind (fun c => jn op a c))) u b2 := by
  constructor
  · intro hl h0
    have e3 := h3.2 (Or.inr (h4.1 hl))
    have e4 := h4.1 hl
    obtain ⟨hs, hn⟩ := h1.1 hl h0
    cases ox with
    | none => exact ⟨fun a ha => (by cases ha), fun _ => by omega⟩
    | some a =>
      obtain ⟨q1, q2, q3, q4⟩ := hs a rfl
      obtain ⟨hs2, hn2⟩ := h2.1 hl q4
      cases oy with
      | none => exact ⟨fun a ha => (by cases ha), fun _ => by omega⟩
      | some c =>
        obtain ⟨r1, r2, r3, r4⟩ := hs2 c rfl
        have ec : c = 0 := by omega
        subst ec
        show (∀ a', jn op a 0 = some a' → _) ∧ (jn op a 0 = none → _)
        rw [hj a]
        exact ⟨fun a ha => (by cases ha), fun _ => by omega⟩
  · intro h
    have e1 := h1.2 h
    have e2 := h2.2 (by omega)
    rcases (show l = 0 ∨ l = 1 by omega) with hl | hl
    · have e4 := h4.2 hl
      have e3 := h3.2 (Or.inl hl)
      omega
    · have e4 := h4.1 hl
      have e3 := h3.2 (Or.inr e4)
      omega
set_option maxRecDepth 20000 in
theorem jn_add {v w : Int64} (a c : Int) (h1 : v.toInt = a) (h2 : w.toInt = c) (h3 : -1000000000 ≤ a) (h4 : a ≤ 1000000000) (h5 : -1000000000 ≤ c) (h6 : c ≤ 1000000000) : jn 43 a c = bndI (v + w).toInt := by
  show bndI (a + c) = _
  rw [Int64.toInt_add, h1, h2, Int.bmod_eq_of_le (by omega) (by omega)]
set_option maxRecDepth 20000 in
theorem jn_sub {v w : Int64} (a c : Int) (h1 : v.toInt = a) (h2 : w.toInt = c) (h3 : -1000000000 ≤ a) (h4 : a ≤ 1000000000) (h5 : -1000000000 ≤ c) (h6 : c ≤ 1000000000) : jn 45 a c = bndI (v - w).toInt := by
  show bndI (a - c) = _
  rw [Int64.toInt_sub, h1, h2, Int.bmod_eq_of_le (by omega) (by omega)]
set_option maxRecDepth 20000 in
theorem mul_bd {a c : Int} (h3 : -1000000000 ≤ a) (h4 : a ≤ 1000000000) (h5 : -1000000000 ≤ c) (h6 : c ≤ 1000000000) : -1000000000000000000 ≤ a * c ∧ a * c ≤ 1000000000000000000 := by
  have h : (a * c).natAbs ≤ 1000000000 * 1000000000 := by
    rw [Int.natAbs_mul]
    exact Nat.mul_le_mul (by omega) (by omega)
  omega
set_option maxRecDepth 20000 in
theorem jn_mul {v w : Int64} (a c : Int) (h1 : v.toInt = a) (h2 : w.toInt = c) (h3 : -1000000000 ≤ a) (h4 : a ≤ 1000000000) (h5 : -1000000000 ≤ c) (h6 : c ≤ 1000000000) : jn 42 a c = bndI (v * w).toInt := by
  show bndI (a * c) = _
  obtain ⟨q1, q2⟩ := mul_bd h3 h4 h5 h6
  rw [Int64.toInt_mul, h1, h2, Int.bmod_eq_of_le (by omega) (by omega)]
set_option maxRecDepth 20000 in
theorem tdiv_bd {a c : Int} (h3 : -1000000000 ≤ a) (h4 : a ≤ 1000000000) : -1000000000 ≤ a.tdiv c ∧ a.tdiv c ≤ 1000000000 := by
  have h : (a.tdiv c).natAbs ≤ a.natAbs := by
    rw [Int.natAbs_tdiv]
    exact Nat.div_le_self _ _
  omega
set_option maxRecDepth 20000 in
theorem jn_div {v w : Int64} (hw : ¬ w = 0) (a c : Int) (h1 : v.toInt = a) (h2 : w.toInt = c) (h3 : -1000000000 ≤ a) (h4 : a ≤ 1000000000) (h5 : -1000000000 ≤ c) (h6 : c ≤ 1000000000) : jn 47 a c = bndI (v / w).toInt := by
  have hc : ¬ c = 0 := fun z => hw (by rw [← Int64.toInt_inj, h2, z]; rfl)
  show (if c = 0 then none else bndI (Int.tdiv a c)) = _
  obtain ⟨q1, q2⟩ := tdiv_bd (c := c) h3 h4
  rw [if_neg hc, Int64.toInt_div, h1, h2, Int.bmod_eq_of_le (by omega) (by omega)]
set_option maxRecDepth 20000 in
theorem jn_mod {v w : Int64} (hw : ¬ w = 0) (a c : Int) (h1 : v.toInt = a) (h2 : w.toInt = c) (h3 : -1000000000 ≤ a) (h4 : a ≤ 1000000000) (_ : -1000000000 ≤ c) (_ : c ≤ 1000000000) : jn 37 a c = bndI (v - v / w * w).toInt := by
  have hc : ¬ c = 0 := fun z => hw (by rw [← Int64.toInt_inj, h2, z]; rfl)
  show (if c = 0 then none else bndI (Int.tmod a c)) = _
  obtain ⟨q1, q2⟩ := tdiv_bd (c := c) h3 h4
  have q3 := Int.mul_tdiv_add_tmod a c
  have q4 : (a.tmod c).natAbs ≤ a.natAbs := by
    rw [Int.natAbs_tmod]
    exact Nat.mod_le _ _
  rw [Int.mul_comm] at q3
  have e1 : (v / w).toInt = a.tdiv c := by
    rw [Int64.toInt_div, h1, h2, Int.bmod_eq_of_le (by omega) (by omega)]
  have e2 : (v / w * w).toInt = a.tdiv c * c := by
    rw [Int64.toInt_mul, e1, h2, Int.bmod_eq_of_le (by omega) (by omega)]
  rw [if_neg hc, Int64.toInt_sub, h1, e2, Int.bmod_eq_of_le (by omega) (by omega)]
  congr 1
  omega
section Ev2
variable {d : Nat} {V0 : VIT} {VL : VLT} {G : VRT} {P : Post} {ext : HL} {K : KT} {B n f : Nat} {tc tv : Nat → Nat} {o : Bool} {e : Env}
def Sm5 (V0 : VIT) (VL : VLT) (G : VRT) (ext : HL) (B n : Nat) (e : Env) (o : Bool) (tc tv : Nat → Nat) (f : Nat) : Prop := ∀ dp i p x l b V D, dp ≤ 8 → 3 * (8 - dp) + 4 ≤ D → i ≤ n → l ≤ 1 → FrE V0 V → At B i b V → (prs o tc tv f 5 dp i p x).1 = 1 → EvL V0 VL G ext B e D mi219 0 (entL [.ref 74, .int (nI l)] 7) V l b (prs o tc tv f 5 dp i p x)
def Sm6 (V0 : VIT) (VL : VLT) (G : VRT) (ext : HL) (B n : Nat) (e : Env) (o : Bool) (tc tv : Nat → Nat) (f : Nat) : Prop := ∀ dp i p x l b0 b v V D z4 z5 z6, dp ≤ 8 → 3 * (8 - dp) + 4 ≤ D → i ≤ n → l ≤ 1 → FrE V0 V → At B i b V → Rel l b0 (x e) v b → (prs o tc tv f 6 dp i p x).1 = 1 → EvL V0 VL G ext B e D mi219 6 [.ref 74, .int (nI l), .long v, .retAddr 8, z4, z5, z6] V l b0 (prs o tc tv f 6 dp i p x)
def Sm7 (V0 : VIT) (VL : VLT) (G : VRT) (ext : HL) (B n : Nat) (e : Env) (o : Bool) (tc tv : Nat → Nat) (f : Nat) : Prop := ∀ dp i p x l b V D, dp ≤ 8 → 3 * (8 - dp) + 3 ≤ D → i ≤ n → l ≤ 1 → FrE V0 V → At B i b V → (prs o tc tv f 7 dp i p x).1 = 1 → EvL V0 VL G ext B e D mi220 0 (entL [.ref 74, .int (nI l)] 7) V l b (prs o tc tv f 7 dp i p x)
def Sm8 (V0 : VIT) (VL : VLT) (G : VRT) (ext : HL) (B n : Nat) (e : Env) (o : Bool) (tc tv : Nat → Nat) (f : Nat) : Prop := ∀ dp i p x l b0 b v V D z4 z5 z6, dp ≤ 8 → 3 * (8 - dp) + 3 ≤ D → i ≤ n → l ≤ 1 → FrE V0 V → At B i b V → Rel l b0 (x e) v b → (prs o tc tv f 8 dp i p x).1 = 1 → EvL V0 VL G ext B e D mi220 6 [.ref 74, .int (nI l), .long v, .retAddr 8, z4, z5, z6] V l b0 (prs o tc tv f 8 dp i p x)
def Sm9 (V0 : VIT) (VL : VLT) (G : VRT) (ext : HL) (B n : Nat) (e : Env) (o : Bool) (tc tv : Nat → Nat) (f : Nat) : Prop := ∀ dp i p x l b V D, dp ≤ 8 → 3 * (8 - dp) + 2 ≤ D → i ≤ n → l ≤ 1 → FrE V0 V → At B i b V → (prs o tc tv f 9 dp i p x).1 = 1 → EvL V0 VL G ext B e D mi221 0 (entL [.ref 74, .int (nI l)] 4) V l b (prs o tc tv f 9 dp i p x)
set_option maxRecDepth 20000 in
theorem sm5 (hE : EvS K B n tc V0) (h7 : Sm7 V0 VL G ext B n e o tc tv f) (h6 : Sm6 V0 VL G ext B n e o tc tv f) : Sm5 V0 VL G ext B n e o tc tv (f + 1) := by
  intro dp i p x l b V D hd hD hi hl hF hA hr
  have e5 : prs o tc tv (f + 1) 5 dp i p x = pbd (prs o tc tv f 7 dp i p x) (fun i' p' y => prs o tc tv f 6 dp i' p' y) := rfl
  rw [e5] at hr ⊢
  obtain ⟨g1, g2⟩ := pbd_1 hr
  rw [g2] at hr ⊢
  obtain ⟨o1, o2, o3⟩ := prs_ok (o := o) (tv := tv) hE.2.2.2.2.2.1 f 7 dp i p x hi g1
  obtain ⟨d, rfl⟩ : ∃ d, D = d + 4 := ⟨D - 4, by omega⟩
  intro P hP
  refine x_aload_n rfl rfl ?_
  refine x_iload_n rfl rfl ?_
  refine x_callV (M' := mi220) (As := [_]) (bc1 := 0) (bs1 := 0) (bc2 := 0) (bs2 := 0) rfl rfl rfl rfl ok220 rfl rfl (by decide) rfl rfl rfl rfl rfl rfl ?_
  refine h7 dp i p x l b V (d + 3) hd (by omega) hi hl hF hA g1 _ (fun v V' b' hF' hA' hR => ?_)
  refine x_lstore_n (ls' := [_, _, _, _, _, _, _]) rfl rfl rfl ?_
  exact h6 dp _ _ _ l b b' v V' (d + 4) _ _ _ hd hD o2 hl hF' hA' hR hr P hP
set_option maxRecDepth 20000 in
theorem sm7 (hE : EvS K B n tc V0) (h7 : Sm9 V0 VL G ext B n e o tc tv f) (h6 : Sm8 V0 VL G ext B n e o tc tv f) : Sm7 V0 VL G ext B n e o tc tv (f + 1) := by
  intro dp i p x l b V D hd hD hi hl hF hA hr
  have e5 : prs o tc tv (f + 1) 7 dp i p x = pbd (prs o tc tv f 9 dp i p x) (fun i' p' y => prs o tc tv f 8 dp i' p' y) := rfl
  rw [e5] at hr ⊢
  obtain ⟨g1, g2⟩ := pbd_1 hr
  rw [g2] at hr ⊢
  obtain ⟨o1, o2, o3⟩ := prs_ok (o := o) (tv := tv) hE.2.2.2.2.2.1 f 9 dp i p x hi g1
  obtain ⟨d, rfl⟩ : ∃ d, D = d + 3 := ⟨D - 3, by omega⟩
  intro P hP
  refine x_aload_n rfl rfl ?_
  refine x_iload_n rfl rfl ?_
  refine x_callV (M' := mi221) (As := [_]) (bc1 := 0) (bs1 := 0) (bc2 := 0) (bs2 := 0) rfl rfl rfl rfl ok221 rfl rfl (by decide) rfl rfl rfl rfl rfl rfl ?_
  refine h7 dp i p x l b V (d + 2) hd (by omega) hi hl hF hA g1 _ (fun v V' b' hF' hA' hR => ?_)
  refine x_lstore_n (ls' := [_, _, _, _, _, _, _]) rfl rfl rfl ?_
  exact h6 dp _ _ _ l b b' v V' (d + 3) _ _ _ hd hD o2 hl hF' hA' hR hr P hP
set_option maxRecDepth 20000 in
theorem sm6 (hE : EvS K B n tc V0) (h7 : Sm7 V0 VL G ext B n e o tc tv f) (h6 : Sm6 V0 VL G ext B n e o tc tv f) : Sm6 V0 VL G ext B n e o tc tv (f + 1) := by
  intro dp i p x l b0 b v V D z4 z5 z6 hd hD hi hl hF hA hR hr
  have hE1 := hE.fr hF
  have h7c := hE.2.2.2.2.2.2 i
  have hn4 := hE.2.2.2.1
  have hB4 := hE.2.2.1
  obtain ⟨d, rfl⟩ : ∃ d, D = d + 4 := ⟨D - 4, by omega⟩
  by_cases c : tc i = 143
  · have e6 : prs o tc tv (f + 1) 6 dp i p x = pbd (prs o tc tv f 7 dp (i + 1) p x) (fun i' p' y => prs o tc tv f 6 dp i' p' (dBin 43 x y)) := by
      show (if tc i = 143 ∨ tc i = 145 then pbd (prs o tc tv f 7 dp (i + 1) p x) (fun i' p' y => prs o tc tv f 6 dp i' p' (dBin (tc i - 100) x y)) else (1, i, p, x)) = _
      rw [if_pos (by omega), c]
    rw [e6] at hr ⊢
    obtain ⟨g1, g2⟩ := pbd_1 hr
    rw [g2] at hr ⊢
    have hin : i < n := Nat.lt_of_not_le (fun z => by have := hE.2.2.2.2.2.1 i z; omega)
    obtain ⟨o1, o2, o3⟩ := prs_ok (o := o) (tv := tv) hE.2.2.2.2.2.1 f 7 dp (i + 1) p x hin g1
    intro P hP
    refine x_aload_n rfl rfl ?_
    refine x_aload_n rfl rfl ?_
    refine x_getE (y := 22) rfl rfl rfl (hA.1) ?_
    refine x_callV (M' := mi216) (As := [_]) (bc1 := 0) (bs1 := 0) (bc2 := 0) (bs2 := 0) rfl rfl rfl rfl ok216 rfl rfl (by decide) rfl rfl rfl rfl rfl rfl ?_
    refine m_codeAt hE1 (by omega) ?_
    rw [c]
    refine x_bipushN (q := 43) rfl ?_
    refine x_callS (M' := mi199) (As := [_]) (bc1 := 0) (bs1 := 0) (bc2 := 0) (bs2 := 0) rfl rfl rfl rfl ok199 rfl rfl rfl rfl rfl rfl ?_
    refine m_sign (by omega) ?_
    refine x_icmpN_eq rfl (fun c19 => ?_) (fun c19 => ?_)
    rotate_left
    · exact absurd c19 (by first | decide | omega)
    refine x_aload_n rfl rfl ?_
    refine x_aload_n rfl rfl ?_
    refine x_getE (y := 22) rfl rfl rfl (hA.1) ?_
    refine x_callV (M' := mi216) (As := [_]) (bc1 := 0) (bs1 := 0) (bc2 := 0) (bs2 := 0) rfl rfl rfl rfl ok216 rfl rfl (by decide) rfl rfl rfl rfl rfl rfl ?_
    refine m_codeAt hE1 (by omega) ?_
    rw [c]
    refine x_bipushN (q := 43) rfl ?_
    refine x_callS (M' := mi199) (As := [_]) (bc1 := 0) (bs1 := 0) (bc2 := 0) (bs2 := 0) rfl rfl rfl rfl ok199 rfl rfl rfl rfl rfl rfl ?_
    refine m_sign (by omega) ?_
    refine x_icmpN_ne rfl (fun c51 => ?_) (fun c51 => ?_)
    · exact absurd c51 (by first | decide | omega)
    refine x_iconstN (q := 1) rfl ?_
    refine x_goto rfl ?_
    refine x_istore (ls' := [_, _, _, _, _, _, _]) rfl rfl rfl ?_
    refine x_aload_n rfl rfl ?_
    refine x_dup rfl rfl ?_
    refine x_getE (y := 22) rfl rfl rfl (hA.1) ?_
    refine x_iconstN (q := 1) rfl ?_
    refine x_iaddN rfl ?_
    refine x_putI rfl rfl rfl rfl ?_
    refine x_aload_n rfl rfl ?_
    refine x_iload_n rfl rfl ?_
    refine x_callV (M' := mi220) (As := [_]) (bc1 := 0) (bs1 := 0) (bc2 := 0) (bs2 := 0) rfl rfl rfl rfl ok220 rfl rfl (by decide) rfl rfl rfl rfl rfl rfl ?_
    refine h7 dp (i + 1) p x l b _ (d + 3) hd (by omega) hin hl hF.go ⟨up_at, (up_at' (by omega)).trans hA.2.1, hA.2.2⟩ g1 _ (fun w V2 b2 hF2 hA2 hR2 => ?_)
    refine x_lstore (ls' := [_, _, _, _, _, _, _]) rfl rfl rfl ?_
    refine x_aload_n rfl rfl ?_
    refine x_iload rfl rfl ?_
    refine x_ifN_eq rfl (fun c81 => ?_) (fun c81 => ?_)
    · exact absurd c81 (by first | decide | omega)
    refine x_lload_n rfl rfl ?_
    refine x_lload rfl rfl ?_
    refine x_ladd rfl ?_
    refine x_goto rfl ?_
    refine x_iload_n rfl rfl ?_
    refine x_callV (M' := mi218) (As := [_, _]) (bc1 := 0) (bs1 := 0) (bc2 := 0) (bs2 := 0) rfl rfl rfl rfl ok218 rfl rfl (by decide) rfl rfl rfl rfl rfl rfl ?_
    refine m_bounded hl hA2.2.1 hA2.2.2 (fun u V3 b3 hF3 hg3 hb3 hb3l hR3 => ?_)
    refine x_lstore_n (ls' := [_, _, _, _, _, _, _]) rfl rfl rfl ?_
    refine x_goto rfl ?_
    exact h6 dp _ _ _ l b0 b3 u V3 (d + 4) _ _ _ hd hD o2 hl (hF2.trans hF3) ⟨hg3.trans hA2.1, hb3, hb3l⟩ (rel_bin (op := 43) hR hR2 hR3 jn_add) hr P hP
  · by_cases c' : tc i = 145
    · have c := c'
      have e6 : prs o tc tv (f + 1) 6 dp i p x = pbd (prs o tc tv f 7 dp (i + 1) p x) (fun i' p' y => prs o tc tv f 6 dp i' p' (dBin 45 x y)) := by
        show (if tc i = 143 ∨ tc i = 145 then pbd (prs o tc tv f 7 dp (i + 1) p x) (fun i' p' y => prs o tc tv f 6 dp i' p' (dBin (tc i - 100) x y)) else (1, i, p, x)) = _
        rw [if_pos (by omega), c]
      rw [e6] at hr ⊢
      obtain ⟨g1, g2⟩ := pbd_1 hr
      rw [g2] at hr ⊢
      have hin : i < n := Nat.lt_of_not_le (fun z => by have := hE.2.2.2.2.2.1 i z; omega)
      obtain ⟨o1, o2, o3⟩ := prs_ok (o := o) (tv := tv) hE.2.2.2.2.2.1 f 7 dp (i + 1) p x hin g1
      intro P hP
      refine x_aload_n rfl rfl ?_
      refine x_aload_n rfl rfl ?_
      refine x_getE (y := 22) rfl rfl rfl (hA.1) ?_
      refine x_callV (M' := mi216) (As := [_]) (bc1 := 0) (bs1 := 0) (bc2 := 0) (bs2 := 0) rfl rfl rfl rfl ok216 rfl rfl (by decide) rfl rfl rfl rfl rfl rfl ?_
      refine m_codeAt hE1 (by omega) ?_
      rw [c]
      refine x_bipushN (q := 43) rfl ?_
      refine x_callS (M' := mi199) (As := [_]) (bc1 := 0) (bs1 := 0) (bc2 := 0) (bs2 := 0) rfl rfl rfl rfl ok199 rfl rfl rfl rfl rfl rfl ?_
      refine m_sign (by omega) ?_
      refine x_icmpN_eq rfl (fun c19 => ?_) (fun c19 => ?_)
      · exact absurd c19 (by first | decide | omega)
      refine x_aload_n rfl rfl ?_
      refine x_aload_n rfl rfl ?_
      refine x_getE (y := 22) rfl rfl rfl (hA.1) ?_
      refine x_callV (M' := mi216) (As := [_]) (bc1 := 0) (bs1 := 0) (bc2 := 0) (bs2 := 0) rfl rfl rfl rfl ok216 rfl rfl (by decide) rfl rfl rfl rfl rfl rfl ?_
      refine m_codeAt hE1 (by omega) ?_
      rw [c]
      refine x_bipushN (q := 45) rfl ?_
      refine x_callS (M' := mi199) (As := [_]) (bc1 := 0) (bs1 := 0) (bc2 := 0) (bs2 := 0) rfl rfl rfl rfl ok199 rfl rfl rfl rfl rfl rfl ?_
      refine m_sign (by omega) ?_
      refine x_icmpN_ne rfl (fun c35 => ?_) (fun c35 => ?_)
      · exact absurd c35 (by first | decide | omega)
      refine x_aload_n rfl rfl ?_
      refine x_aload_n rfl rfl ?_
      refine x_getE (y := 22) rfl rfl rfl (hA.1) ?_
      refine x_callV (M' := mi216) (As := [_]) (bc1 := 0) (bs1 := 0) (bc2 := 0) (bs2 := 0) rfl rfl rfl rfl ok216 rfl rfl (by decide) rfl rfl rfl rfl rfl rfl ?_
      refine m_codeAt hE1 (by omega) ?_
      rw [c]
      refine x_bipushN (q := 43) rfl ?_
      refine x_callS (M' := mi199) (As := [_]) (bc1 := 0) (bs1 := 0) (bc2 := 0) (bs2 := 0) rfl rfl rfl rfl ok199 rfl rfl rfl rfl rfl rfl ?_
      refine m_sign (by omega) ?_
      refine x_icmpN_ne rfl (fun c51 => ?_) (fun c51 => ?_)
      rotate_left
      · exact absurd c51 (by first | decide | omega)
      refine x_iconstN (q := 0) rfl ?_
      refine x_istore (ls' := [_, _, _, _, _, _, _]) rfl rfl rfl ?_
      refine x_aload_n rfl rfl ?_
      refine x_dup rfl rfl ?_
      refine x_getE (y := 22) rfl rfl rfl (hA.1) ?_
      refine x_iconstN (q := 1) rfl ?_
      refine x_iaddN rfl ?_
      refine x_putI rfl rfl rfl rfl ?_
      refine x_aload_n rfl rfl ?_
      refine x_iload_n rfl rfl ?_
      refine x_callV (M' := mi220) (As := [_]) (bc1 := 0) (bs1 := 0) (bc2 := 0) (bs2 := 0) rfl rfl rfl rfl ok220 rfl rfl (by decide) rfl rfl rfl rfl rfl rfl ?_
      refine h7 dp (i + 1) p x l b _ (d + 3) hd (by omega) hin hl hF.go ⟨up_at, (up_at' (by omega)).trans hA.2.1, hA.2.2⟩ g1 _ (fun w V2 b2 hF2 hA2 hR2 => ?_)
      refine x_lstore (ls' := [_, _, _, _, _, _, _]) rfl rfl rfl ?_
      refine x_aload_n rfl rfl ?_
      refine x_iload rfl rfl ?_
      refine x_ifN_eq rfl (fun c81 => ?_) (fun c81 => ?_)
      rotate_left
      · exact absurd c81 (by first | decide | omega)
      refine x_lload_n rfl rfl ?_
      refine x_lload rfl rfl ?_
      refine x_lsub rfl ?_
      refine x_iload_n rfl rfl ?_
      refine x_callV (M' := mi218) (As := [_, _]) (bc1 := 0) (bs1 := 0) (bc2 := 0) (bs2 := 0) rfl rfl rfl rfl ok218 rfl rfl (by decide) rfl rfl rfl rfl rfl rfl ?_
      refine m_bounded hl hA2.2.1 hA2.2.2 (fun u V3 b3 hF3 hg3 hb3 hb3l hR3 => ?_)
      refine x_lstore_n (ls' := [_, _, _, _, _, _, _]) rfl rfl rfl ?_
      refine x_goto rfl ?_
      exact h6 dp _ _ _ l b0 b3 u V3 (d + 4) _ _ _ hd hD o2 hl (hF2.trans hF3) ⟨hg3.trans hA2.1, hb3, hb3l⟩ (rel_bin (op := 45) hR hR2 hR3 jn_sub) hr P hP
    · have e6 : prs o tc tv (f + 1) 6 dp i p x = (1, i, p, x) := by
        show (if tc i = 143 ∨ tc i = 145 then pbd (prs o tc tv f 7 dp (i + 1) p x) (fun i' p' y => prs o tc tv f 6 dp i' p' (dBin (tc i - 100) x y)) else (1, i, p, x)) = _
        rw [if_neg (by omega)]
      rw [e6] at hr ⊢
      intro P hP
      refine x_aload_n rfl rfl ?_
      refine x_aload_n rfl rfl ?_
      refine x_getE (y := 22) rfl rfl rfl (hA.1) ?_
      refine x_callV (M' := mi216) (As := [_]) (bc1 := 0) (bs1 := 0) (bc2 := 0) (bs2 := 0) rfl rfl rfl rfl ok216 rfl rfl (by decide) rfl rfl rfl rfl rfl rfl ?_
      refine m_codeAt hE1 (by omega) ?_
      refine x_bipushN (q := 43) rfl ?_
      refine x_callS (M' := mi199) (As := [_]) (bc1 := 0) (bs1 := 0) (bc2 := 0) (bs2 := 0) rfl rfl rfl rfl ok199 rfl rfl rfl rfl rfl rfl ?_
      refine m_sign (by omega) ?_
      refine x_icmpN_eq rfl (fun c19 => ?_) (fun c19 => ?_)
      · exact absurd c19 (by first | decide | omega)
      refine x_aload_n rfl rfl ?_
      refine x_aload_n rfl rfl ?_
      refine x_getE (y := 22) rfl rfl rfl (hA.1) ?_
      refine x_callV (M' := mi216) (As := [_]) (bc1 := 0) (bs1 := 0) (bc2 := 0) (bs2 := 0) rfl rfl rfl rfl ok216 rfl rfl (by decide) rfl rfl rfl rfl rfl rfl ?_
      refine m_codeAt hE1 (by omega) ?_
      refine x_bipushN (q := 45) rfl ?_
      refine x_callS (M' := mi199) (As := [_]) (bc1 := 0) (bs1 := 0) (bc2 := 0) (bs2 := 0) rfl rfl rfl rfl ok199 rfl rfl rfl rfl rfl rfl ?_
      refine m_sign (by omega) ?_
      refine x_icmpN_ne rfl (fun c35 => ?_) (fun c35 => ?_)
      rotate_left
      · exact absurd c35 (by first | decide | omega)
      refine x_lload_n rfl rfl ?_
      refine x_lret rfl rfl ?_
      exact hP v V b hF hA hR
set_option maxRecDepth 20000 in
theorem t_fix {v w : Int64} {l b by_ : Nat} {V : VIT} {D : Nat} (hl : l ≤ 1) (hb : V 74 24 = nI b) (hb1 : b ≤ 1) (hP : ∀ b3, b3 ≤ 1 → ((l = 1 → b3 = 1) ∧ (l = 0 → b3 = b)) → Ex (D + 1) mi220 121 [.ref 74, .int (nI l), .long v, .retAddr 8, .int (nI by_), .long 1, .retAddr 8] [] (LY ++ ext) (up V 74 24 (nI b3)) VL (vr G) 0 0 P) : Ex (D + 1) mi220 98 [.ref 74, .int (nI l), .long v, .retAddr 8, .int (nI by_), .long w, .retAddr 8] [] (LY ++ ext) V VL (vr G) 0 0 P := by
  rcases (show b = 0 ∨ b = 1 by omega) with rfl | rfl
  · rcases (show l = 0 ∨ l = 1 by omega) with rfl | rfl
    · refine x_aload_n rfl rfl ?_
      refine x_aload_n rfl rfl ?_
      refine x_getE (y := 24) rfl rfl rfl (hb) ?_
      refine x_ifN_ne rfl (fun c103 => ?_) (fun c103 => ?_)
      · exact absurd c103 (by first | decide | omega)
      refine x_iload_n rfl rfl ?_
      refine x_ifN_eq rfl (fun c107 => ?_) (fun c107 => ?_)
      rotate_left
      · exact absurd c107 (by first | decide | omega)
      refine x_iconstN (q := 0) rfl ?_
      refine x_putZ rfl rfl rfl rfl (by first | exact Or.inl rfl | exact Or.inr rfl) ?_
      refine x_lconst rfl ?_
      refine x_lstore (ls' := [_, _, _, _, _, _, _]) rfl rfl rfl ?_
      exact hP 0 (by omega) (by omega)
    · refine x_aload_n rfl rfl ?_
      refine x_aload_n rfl rfl ?_
      refine x_getE (y := 24) rfl rfl rfl (hb) ?_
      refine x_ifN_ne rfl (fun c103 => ?_) (fun c103 => ?_)
      · exact absurd c103 (by first | decide | omega)
      refine x_iload_n rfl rfl ?_
      refine x_ifN_eq rfl (fun c107 => ?_) (fun c107 => ?_)
      · exact absurd c107 (by first | decide | omega)
      refine x_iconstN (q := 1) rfl ?_
      refine x_goto rfl ?_
      refine x_putZ rfl rfl rfl rfl (by first | exact Or.inl rfl | exact Or.inr rfl) ?_
      refine x_lconst rfl ?_
      refine x_lstore (ls' := [_, _, _, _, _, _, _]) rfl rfl rfl ?_
      exact hP 1 (by omega) (by omega)
  · refine x_aload_n rfl rfl ?_
    refine x_aload_n rfl rfl ?_
    refine x_getE (y := 24) rfl rfl rfl (hb) ?_
    refine x_ifN_ne rfl (fun c103 => ?_) (fun c103 => ?_)
    rotate_left
    · exact absurd c103 (by first | decide | omega)
    refine x_iconstN (q := 1) rfl ?_
    refine x_goto rfl ?_
    refine x_putZ rfl rfl rfl rfl (by first | exact Or.inl rfl | exact Or.inr rfl) ?_
    refine x_lconst rfl ?_
    refine x_lstore (ls' := [_, _, _, _, _, _, _]) rfl rfl rfl ?_
    exact hP 1 (by omega) (by omega)
set_option maxRecDepth 20000 in
theorem t_mul {v w : Int64} {l b : Nat} {V : VIT} (hl : l ≤ 1) (hb : V 74 24 = nI b) (hb1 : b ≤ 1) (hP : ∀ (u : Int64) (V' : VIT) (b' : Nat), FrE V V' → V' 74 22 = V 74 22 → V' 74 24 = nI b' → b' ≤ 1 → Rel l b (bndI (v * w).toInt) u b' → Ex (d + 1) mi220 6 [.ref 74, .int (nI l), .long u, .retAddr 8, .int (nI 142), .long w, .retAddr 8] [] (LY ++ ext) V' VL (vr G) 0 0 P) : Ex (d + 1) mi220 121 [.ref 74, .int (nI l), .long v, .retAddr 8, .int (nI 142), .long w, .retAddr 8] [] (LY ++ ext) V VL (vr G) 0 0 P := by
  refine x_aload_n rfl rfl ?_
  refine x_iload rfl rfl ?_
  refine x_bipushN (q := 42) rfl ?_
  refine x_callS (M' := mi199) (As := [_]) (bc1 := 0) (bs1 := 0) (bc2 := 0) (bs2 := 0) rfl rfl rfl rfl ok199 rfl rfl rfl rfl rfl rfl ?_
  refine m_sign (by omega) ?_
  refine x_icmpN_ne rfl (fun c129 => ?_) (fun c129 => ?_)
  · exact absurd c129 (by first | decide | omega)
  refine x_lload_n rfl rfl ?_
  refine x_lload rfl rfl ?_
  refine x_lmul rfl ?_
  refine x_goto rfl ?_
  refine x_iload_n rfl rfl ?_
  refine x_callV (M' := mi218) (As := [_, _]) (bc1 := 0) (bs1 := 0) (bc2 := 0) (bs2 := 0) rfl rfl rfl rfl ok218 rfl rfl (by decide) rfl rfl rfl rfl rfl rfl ?_
  refine m_bounded hl hb hb1 (fun u V3 b3 hF3 hg3 hb3 hb3l hR3 => ?_)
  refine x_lstore_n (ls' := [_, _, _, _, _, _, _]) rfl rfl rfl ?_
  refine x_goto rfl ?_
  exact hP u V3 b3 hF3 hg3 hb3 hb3l hR3
set_option maxRecDepth 20000 in
theorem t_div {v w : Int64} {l b : Nat} {V : VIT} (hw : ¬ w = 0) (hl : l ≤ 1) (hb : V 74 24 = nI b) (hb1 : b ≤ 1) (hP : ∀ (u : Int64) (V' : VIT) (b' : Nat), FrE V V' → V' 74 22 = V 74 22 → V' 74 24 = nI b' → b' ≤ 1 → Rel l b (bndI (v / w).toInt) u b' → Ex (d + 1) mi220 6 [.ref 74, .int (nI l), .long u, .retAddr 8, .int (nI 147), .long w, .retAddr 8] [] (LY ++ ext) V' VL (vr G) 0 0 P) : Ex (d + 1) mi220 121 [.ref 74, .int (nI l), .long v, .retAddr 8, .int (nI 147), .long w, .retAddr 8] [] (LY ++ ext) V VL (vr G) 0 0 P := by
  refine x_aload_n rfl rfl ?_
  refine x_iload rfl rfl ?_
  refine x_bipushN (q := 42) rfl ?_
  refine x_callS (M' := mi199) (As := [_]) (bc1 := 0) (bs1 := 0) (bc2 := 0) (bs2 := 0) rfl rfl rfl rfl ok199 rfl rfl rfl rfl rfl rfl ?_
  refine m_sign (by omega) ?_
  refine x_icmpN_ne rfl (fun c129 => ?_) (fun c129 => ?_)
  rotate_left
  · exact absurd c129 (by first | decide | omega)
  refine x_iload rfl rfl ?_
  refine x_bipushN (q := 47) rfl ?_
  refine x_callS (M' := mi199) (As := [_]) (bc1 := 0) (bs1 := 0) (bc2 := 0) (bs2 := 0) rfl rfl rfl rfl ok199 rfl rfl rfl rfl rfl rfl ?_
  refine m_sign (by omega) ?_
  refine x_icmpN_ne rfl (fun c146 => ?_) (fun c146 => ?_)
  · exact absurd c146 (by first | decide | omega)
  refine x_lload_n rfl rfl ?_
  refine x_lload rfl rfl ?_
  refine x_ldiv rfl (hw) ?_
  refine x_goto rfl ?_
  refine x_iload_n rfl rfl ?_
  refine x_callV (M' := mi218) (As := [_, _]) (bc1 := 0) (bs1 := 0) (bc2 := 0) (bs2 := 0) rfl rfl rfl rfl ok218 rfl rfl (by decide) rfl rfl rfl rfl rfl rfl ?_
  refine m_bounded hl hb hb1 (fun u V3 b3 hF3 hg3 hb3 hb3l hR3 => ?_)
  refine x_lstore_n (ls' := [_, _, _, _, _, _, _]) rfl rfl rfl ?_
  refine x_goto rfl ?_
  exact hP u V3 b3 hF3 hg3 hb3 hb3l hR3
set_option maxRecDepth 20000 in
theorem t_mod {v w : Int64} {l b : Nat} {V : VIT} (hw : ¬ w = 0) (hl : l ≤ 1) (hb : V 74 24 = nI b) (hb1 : b ≤ 1) (hP : ∀ (u : Int64) (V' : VIT) (b' : Nat), FrE V V' → V' 74 22 = V 74 22 → V' 74 24 = nI b' → b' ≤ 1 → Rel l b (bndI (v - v / w * w).toInt) u b' → Ex (d + 1) mi220 6 [.ref 74, .int (nI l), .long u, .retAddr 8, .int (nI 137), .long w, .retAddr 8] [] (LY ++ ext) V' VL (vr G) 0 0 P) : Ex (d + 1) mi220 121 [.ref 74, .int (nI l), .long v, .retAddr 8, .int (nI 137), .long w, .retAddr 8] [] (LY ++ ext) V VL (vr G) 0 0 P := by
  refine x_aload_n rfl rfl ?_
  refine x_iload rfl rfl ?_
  refine x_bipushN (q := 42) rfl ?_
  refine x_callS (M' := mi199) (As := [_]) (bc1 := 0) (bs1 := 0) (bc2 := 0) (bs2 := 0) rfl rfl rfl rfl ok199 rfl rfl rfl rfl rfl rfl ?_
  refine m_sign (by omega) ?_
  refine x_icmpN_ne rfl (fun c129 => ?_) (fun c129 => ?_)
  rotate_left
  · exact absurd c129 (by first | decide | omega)
  refine x_iload rfl rfl ?_
  refine x_bipushN (q := 47) rfl ?_
  refine x_callS (M' := mi199) (As := [_]) (bc1 := 0) (bs1 := 0) (bc2 := 0) (bs2 := 0) rfl rfl rfl rfl ok199 rfl rfl rfl rfl rfl rfl ?_
  refine m_sign (by omega) ?_
  refine x_icmpN_ne rfl (fun c146 => ?_) (fun c146 => ?_)
  rotate_left
  · exact absurd c146 (by first | decide | omega)
  refine x_lload_n rfl rfl ?_
  refine x_lload rfl rfl ?_
  refine x_lrem rfl (hw) ?_
  refine x_iload_n rfl rfl ?_
  refine x_callV (M' := mi218) (As := [_, _]) (bc1 := 0) (bs1 := 0) (bc2 := 0) (bs2 := 0) rfl rfl rfl rfl ok218 rfl rfl (by decide) rfl rfl rfl rfl rfl rfl ?_
  refine m_bounded hl hb hb1 (fun u V3 b3 hF3 hg3 hb3 hb3l hR3 => ?_)
  refine x_lstore_n (ls' := [_, _, _, _, _, _, _]) rfl rfl rfl ?_
  refine x_goto rfl ?_
  exact hP u V3 b3 hF3 hg3 hb3 hb3l hR3
set_option maxRecDepth 20000 in
theorem sm8 (hE : EvS K B n tc V0) (h7 : Sm9 V0 VL G ext B n e o tc tv f) (h6 : Sm8 V0 VL G ext B n e o tc tv f) : Sm8 V0 VL G ext B n e o tc tv (f + 1) := by
  intro dp i p x l b0 b v V D z4 z5 z6 hd hD hi hl hF hA hR hr
  have hE1 := hE.fr hF
  have h7c := hE.2.2.2.2.2.2 i
  have hn4 := hE.2.2.2.1
  have hB4 := hE.2.2.1
  obtain ⟨d, rfl⟩ : ∃ d, D = d + 3 := ⟨D - 3, by omega⟩
  by_cases c1 : tc i = 142
  · have c := c1
    have e6 : prs o tc tv (f + 1) 8 dp i p x = pbd (prs o tc tv f 9 dp (i + 1) p x) (fun i' p' y => prs o tc tv f 8 dp i' p' (dBin 42 x y)) := by
      show (if tc i = 142 ∨ tc i = 147 ∨ tc i = 137 then pbd (prs o tc tv f 9 dp (i + 1) p x) (fun i' p' y => prs o tc tv f 8 dp i' p' (dBin (tc i - 100) x y)) else (1, i, p, x)) = _
      rw [if_pos (by omega), c]
    rw [e6] at hr ⊢
    obtain ⟨g1, g2⟩ := pbd_1 hr
    rw [g2] at hr ⊢
    have hin : i < n := Nat.lt_of_not_le (fun z => by have := hE.2.2.2.2.2.1 i z; omega)
    obtain ⟨o1, o2, o3⟩ := prs_ok (o := o) (tv := tv) hE.2.2.2.2.2.1 f 9 dp (i + 1) p x hin g1
    intro P hP
    refine x_aload_n rfl rfl ?_
    refine x_aload_n rfl rfl ?_
    refine x_getE (y := 22) rfl rfl rfl (hA.1) ?_
    refine x_callV (M' := mi216) (As := [_]) (bc1 := 0) (bs1 := 0) (bc2 := 0) (bs2 := 0) rfl rfl rfl rfl ok216 rfl rfl (by decide) rfl rfl rfl rfl rfl rfl ?_
    refine m_codeAt hE1 (by omega) ?_
    rw [c]
    refine x_bipushN (q := 42) rfl ?_
    refine x_callS (M' := mi199) (As := [_]) (bc1 := 0) (bs1 := 0) (bc2 := 0) (bs2 := 0) rfl rfl rfl rfl ok199 rfl rfl rfl rfl rfl rfl ?_
    refine m_sign (by omega) ?_
    refine x_icmpN_eq rfl (fun c19 => ?_) (fun c19 => ?_)
    rotate_left
    · exact absurd c19 (by first | decide | omega)
    refine x_aload_n rfl rfl ?_
    refine x_aload_n rfl rfl ?_
    refine x_getE (y := 22) rfl rfl rfl (hA.1) ?_
    refine x_callV (M' := mi216) (As := [_]) (bc1 := 0) (bs1 := 0) (bc2 := 0) (bs2 := 0) rfl rfl rfl rfl ok216 rfl rfl (by decide) rfl rfl rfl rfl rfl rfl ?_
    refine m_codeAt hE1 (by omega) ?_
    rw [c]
    refine x_istore (ls' := [_, _, _, _, _, _, _]) rfl rfl rfl ?_
    refine x_aload_n rfl rfl ?_
    refine x_dup rfl rfl ?_
    refine x_getE (y := 22) rfl rfl rfl (hA.1) ?_
    refine x_iconstN (q := 1) rfl ?_
    refine x_iaddN rfl ?_
    refine x_putI rfl rfl rfl rfl ?_
    refine x_aload_n rfl rfl ?_
    refine x_iload_n rfl rfl ?_
    refine x_callV (M' := mi221) (As := [_]) (bc1 := 0) (bs1 := 0) (bc2 := 0) (bs2 := 0) rfl rfl rfl rfl ok221 rfl rfl (by decide) rfl rfl rfl rfl rfl rfl ?_
    refine h7 dp (i + 1) p x l b _ (d + 2) hd (by omega) hin hl hF.go ⟨up_at, (up_at' (by omega)).trans hA.2.1, hA.2.2⟩ g1 _ (fun w V2 b2 hF2 hA2 hR2 => ?_)
    refine x_lstore (ls' := [_, _, _, _, _, _, _]) rfl rfl rfl ?_
    refine x_iload rfl rfl ?_
    refine x_bipushN (q := 42) rfl ?_
    refine x_callS (M' := mi199) (As := [_]) (bc1 := 0) (bs1 := 0) (bc2 := 0) (bs2 := 0) rfl rfl rfl rfl ok199 rfl rfl rfl rfl rfl rfl ?_
    refine m_sign (by omega) ?_
    refine x_icmpN_eq rfl (fun c88 => ?_) (fun c88 => ?_)
    rotate_left
    · exact absurd c88 (by first | decide | omega)
    skip
    exact t_mul (d := d + 2) hl hA2.2.1 hA2.2.2 (fun u V3 b3 hF3 hg3 hb3 hb3l hR3 => by exact h6 dp _ _ _ l b0 b3 u V3 (d + 3) _ _ _ hd hD o2 hl (hF2.trans hF3) ⟨hg3.trans hA2.1, hb3, hb3l⟩ (rel_bin (op := 42) hR hR2 hR3 jn_mul) hr P hP)
  · by_cases c2 : tc i = 147
    · have c := c2
      have e6 : prs o tc tv (f + 1) 8 dp i p x = pbd (prs o tc tv f 9 dp (i + 1) p x) (fun i' p' y => prs o tc tv f 8 dp i' p' (dBin 47 x y)) := by
        show (if tc i = 142 ∨ tc i = 147 ∨ tc i = 137 then pbd (prs o tc tv f 9 dp (i + 1) p x) (fun i' p' y => prs o tc tv f 8 dp i' p' (dBin (tc i - 100) x y)) else (1, i, p, x)) = _
        rw [if_pos (by omega), c]
      rw [e6] at hr ⊢
      obtain ⟨g1, g2⟩ := pbd_1 hr
      rw [g2] at hr ⊢
      have hin : i < n := Nat.lt_of_not_le (fun z => by have := hE.2.2.2.2.2.1 i z; omega)
      obtain ⟨o1, o2, o3⟩ := prs_ok (o := o) (tv := tv) hE.2.2.2.2.2.1 f 9 dp (i + 1) p x hin g1
      intro P hP
      refine x_aload_n rfl rfl ?_
      refine x_aload_n rfl rfl ?_
      refine x_getE (y := 22) rfl rfl rfl (hA.1) ?_
      refine x_callV (M' := mi216) (As := [_]) (bc1 := 0) (bs1 := 0) (bc2 := 0) (bs2 := 0) rfl rfl rfl rfl ok216 rfl rfl (by decide) rfl rfl rfl rfl rfl rfl ?_
      refine m_codeAt hE1 (by omega) ?_
      rw [c]
      refine x_bipushN (q := 42) rfl ?_
      refine x_callS (M' := mi199) (As := [_]) (bc1 := 0) (bs1 := 0) (bc2 := 0) (bs2 := 0) rfl rfl rfl rfl ok199 rfl rfl rfl rfl rfl rfl ?_
      refine m_sign (by omega) ?_
      refine x_icmpN_eq rfl (fun c19 => ?_) (fun c19 => ?_)
      · exact absurd c19 (by first | decide | omega)
      refine x_aload_n rfl rfl ?_
      refine x_aload_n rfl rfl ?_
      refine x_getE (y := 22) rfl rfl rfl (hA.1) ?_
      refine x_callV (M' := mi216) (As := [_]) (bc1 := 0) (bs1 := 0) (bc2 := 0) (bs2 := 0) rfl rfl rfl rfl ok216 rfl rfl (by decide) rfl rfl rfl rfl rfl rfl ?_
      refine m_codeAt hE1 (by omega) ?_
      rw [c]
      refine x_bipushN (q := 47) rfl ?_
      refine x_callS (M' := mi199) (As := [_]) (bc1 := 0) (bs1 := 0) (bc2 := 0) (bs2 := 0) rfl rfl rfl rfl ok199 rfl rfl rfl rfl rfl rfl ?_
      refine m_sign (by omega) ?_
      refine x_icmpN_eq rfl (fun c35 => ?_) (fun c35 => ?_)
      rotate_left
      · exact absurd c35 (by first | decide | omega)
      refine x_aload_n rfl rfl ?_
      refine x_aload_n rfl rfl ?_
      refine x_getE (y := 22) rfl rfl rfl (hA.1) ?_
      refine x_callV (M' := mi216) (As := [_]) (bc1 := 0) (bs1 := 0) (bc2 := 0) (bs2 := 0) rfl rfl rfl rfl ok216 rfl rfl (by decide) rfl rfl rfl rfl rfl rfl ?_
      refine m_codeAt hE1 (by omega) ?_
      rw [c]
      refine x_istore (ls' := [_, _, _, _, _, _, _]) rfl rfl rfl ?_
      refine x_aload_n rfl rfl ?_
      refine x_dup rfl rfl ?_
      refine x_getE (y := 22) rfl rfl rfl (hA.1) ?_
      refine x_iconstN (q := 1) rfl ?_
      refine x_iaddN rfl ?_
      refine x_putI rfl rfl rfl rfl ?_
      refine x_aload_n rfl rfl ?_
      refine x_iload_n rfl rfl ?_
      refine x_callV (M' := mi221) (As := [_]) (bc1 := 0) (bs1 := 0) (bc2 := 0) (bs2 := 0) rfl rfl rfl rfl ok221 rfl rfl (by decide) rfl rfl rfl rfl rfl rfl ?_
      refine h7 dp (i + 1) p x l b _ (d + 2) hd (by omega) hin hl hF.go ⟨up_at, (up_at' (by omega)).trans hA.2.1, hA.2.2⟩ g1 _ (fun w V2 b2 hF2 hA2 hR2 => ?_)
      refine x_lstore (ls' := [_, _, _, _, _, _, _]) rfl rfl rfl ?_
      refine x_iload rfl rfl ?_
      refine x_bipushN (q := 42) rfl ?_
      refine x_callS (M' := mi199) (As := [_]) (bc1 := 0) (bs1 := 0) (bc2 := 0) (bs2 := 0) rfl rfl rfl rfl ok199 rfl rfl rfl rfl rfl rfl ?_
      refine m_sign (by omega) ?_
      refine x_icmpN_eq rfl (fun c88 => ?_) (fun c88 => ?_)
      · exact absurd c88 (by first | decide | omega)
      skip
      by_cases hw : w = 0
      · have hz : w.toInt = 0 := by rw [hw]; rfl
        refine x_lload rfl rfl ?_
        refine x_lconst rfl ?_
        refine x_lcmp rfl ?_
        refine x_if_ne rfl (fun c95 => ?_) (fun c95 => ?_)
        · exact absurd (lgE.mpr hz) c95
        skip
        refine t_fix (D := d + 2) hl hA2.2.1 hA2.2.2 (fun b4 hb4 h4 => ?_)
        refine t_div (d := d + 2) (by decide) hl up_at hb4 (fun u V3 b3 hF3 hg3 hb3 hb3l hR3 => ?_)
        exact h6 dp _ _ _ l b0 b3 u V3 (d + 3) _ _ _ hd hD o2 hl ((hF2.br).trans hF3) ⟨hg3.trans ((up_at' (by omega)).trans hA2.1), hb3, hb3l⟩ (rel_zero (op := 47) hl hR hR2 hz h4 hR3 (fun a => rfl)) hr P hP
      · refine x_lload rfl rfl ?_
        refine x_lconst rfl ?_
        refine x_lcmp rfl ?_
        refine x_if_ne rfl (fun c95 => ?_) (fun c95 => ?_)
        rotate_left
        · exact absurd (Int64.toInt_inj.mp (lgE.mp c95)) hw
        skip
        exact t_div (d := d + 2) hw hl hA2.2.1 hA2.2.2 (fun u V3 b3 hF3 hg3 hb3 hb3l hR3 => by exact h6 dp _ _ _ l b0 b3 u V3 (d + 3) _ _ _ hd hD o2 hl (hF2.trans hF3) ⟨hg3.trans hA2.1, hb3, hb3l⟩ (rel_bin (op := 47) hR hR2 hR3 (jn_div hw)) hr P hP)
    · by_cases c3 : tc i = 137
      · have c := c3
        have e6 : prs o tc tv (f + 1) 8 dp i p x = pbd (prs o tc tv f 9 dp (i + 1) p x) (fun i' p' y => prs o tc tv f 8 dp i' p' (dBin 37 x y)) := by
          show (if tc i = 142 ∨ tc i = 147 ∨ tc i = 137 then pbd (prs o tc tv f 9 dp (i + 1) p x) (fun i' p' y => prs o tc tv f 8 dp i' p' (dBin (tc i - 100) x y)) else (1, i, p, x)) = _
          rw [if_pos (by omega), c]
        rw [e6] at hr ⊢
        obtain ⟨g1, g2⟩ := pbd_1 hr
        rw [g2] at hr ⊢
        have hin : i < n := Nat.lt_of_not_le (fun z => by have := hE.2.2.2.2.2.1 i z; omega)
        obtain ⟨o1, o2, o3⟩ := prs_ok (o := o) (tv := tv) hE.2.2.2.2.2.1 f 9 dp (i + 1) p x hin g1
        intro P hP
        refine x_aload_n rfl rfl ?_
        refine x_aload_n rfl rfl ?_
        refine x_getE (y := 22) rfl rfl rfl (hA.1) ?_
        refine x_callV (M' := mi216) (As := [_]) (bc1 := 0) (bs1 := 0) (bc2 := 0) (bs2 := 0) rfl rfl rfl rfl ok216 rfl rfl (by decide) rfl rfl rfl rfl rfl rfl ?_
        refine m_codeAt hE1 (by omega) ?_
        rw [c]
        refine x_bipushN (q := 42) rfl ?_
        refine x_callS (M' := mi199) (As := [_]) (bc1 := 0) (bs1 := 0) (bc2 := 0) (bs2 := 0) rfl rfl rfl rfl ok199 rfl rfl rfl rfl rfl rfl ?_
        refine m_sign (by omega) ?_
        refine x_icmpN_eq rfl (fun c19 => ?_) (fun c19 => ?_)
        · exact absurd c19 (by first | decide | omega)
        refine x_aload_n rfl rfl ?_
        refine x_aload_n rfl rfl ?_
        refine x_getE (y := 22) rfl rfl rfl (hA.1) ?_
        refine x_callV (M' := mi216) (As := [_]) (bc1 := 0) (bs1 := 0) (bc2 := 0) (bs2 := 0) rfl rfl rfl rfl ok216 rfl rfl (by decide) rfl rfl rfl rfl rfl rfl ?_
        refine m_codeAt hE1 (by omega) ?_
        rw [c]
        refine x_bipushN (q := 47) rfl ?_
        refine x_callS (M' := mi199) (As := [_]) (bc1 := 0) (bs1 := 0) (bc2 := 0) (bs2 := 0) rfl rfl rfl rfl ok199 rfl rfl rfl rfl rfl rfl ?_
        refine m_sign (by omega) ?_
        refine x_icmpN_eq rfl (fun c35 => ?_) (fun c35 => ?_)
        · exact absurd c35 (by first | decide | omega)
        refine x_aload_n rfl rfl ?_
        refine x_aload_n rfl rfl ?_
        refine x_getE (y := 22) rfl rfl rfl (hA.1) ?_
        refine x_callV (M' := mi216) (As := [_]) (bc1 := 0) (bs1 := 0) (bc2 := 0) (bs2 := 0) rfl rfl rfl rfl ok216 rfl rfl (by decide) rfl rfl rfl rfl rfl rfl ?_
        refine m_codeAt hE1 (by omega) ?_
        rw [c]
        refine x_bipushN (q := 37) rfl ?_
        refine x_callS (M' := mi199) (As := [_]) (bc1 := 0) (bs1 := 0) (bc2 := 0) (bs2 := 0) rfl rfl rfl rfl ok199 rfl rfl rfl rfl rfl rfl ?_
        refine m_sign (by omega) ?_
        refine x_icmpN_ne rfl (fun c51 => ?_) (fun c51 => ?_)
        · exact absurd c51 (by first | decide | omega)
        refine x_aload_n rfl rfl ?_
        refine x_aload_n rfl rfl ?_
        refine x_getE (y := 22) rfl rfl rfl (hA.1) ?_
        refine x_callV (M' := mi216) (As := [_]) (bc1 := 0) (bs1 := 0) (bc2 := 0) (bs2 := 0) rfl rfl rfl rfl ok216 rfl rfl (by decide) rfl rfl rfl rfl rfl rfl ?_
        refine m_codeAt hE1 (by omega) ?_
        rw [c]
        refine x_istore (ls' := [_, _, _, _, _, _, _]) rfl rfl rfl ?_
        refine x_aload_n rfl rfl ?_
        refine x_dup rfl rfl ?_
        refine x_getE (y := 22) rfl rfl rfl (hA.1) ?_
        refine x_iconstN (q := 1) rfl ?_
        refine x_iaddN rfl ?_
        refine x_putI rfl rfl rfl rfl ?_
        refine x_aload_n rfl rfl ?_
        refine x_iload_n rfl rfl ?_
        refine x_callV (M' := mi221) (As := [_]) (bc1 := 0) (bs1 := 0) (bc2 := 0) (bs2 := 0) rfl rfl rfl rfl ok221 rfl rfl (by decide) rfl rfl rfl rfl rfl rfl ?_
        refine h7 dp (i + 1) p x l b _ (d + 2) hd (by omega) hin hl hF.go ⟨up_at, (up_at' (by omega)).trans hA.2.1, hA.2.2⟩ g1 _ (fun w V2 b2 hF2 hA2 hR2 => ?_)
        refine x_lstore (ls' := [_, _, _, _, _, _, _]) rfl rfl rfl ?_
        refine x_iload rfl rfl ?_
        refine x_bipushN (q := 42) rfl ?_
        refine x_callS (M' := mi199) (As := [_]) (bc1 := 0) (bs1 := 0) (bc2 := 0) (bs2 := 0) rfl rfl rfl rfl ok199 rfl rfl rfl rfl rfl rfl ?_
        refine m_sign (by omega) ?_
        refine x_icmpN_eq rfl (fun c88 => ?_) (fun c88 => ?_)
        · exact absurd c88 (by first | decide | omega)
        skip
        by_cases hw : w = 0
        · have hz : w.toInt = 0 := by rw [hw]; rfl
          refine x_lload rfl rfl ?_
          refine x_lconst rfl ?_
          refine x_lcmp rfl ?_
          refine x_if_ne rfl (fun c95 => ?_) (fun c95 => ?_)
          · exact absurd (lgE.mpr hz) c95
          skip
          refine t_fix (D := d + 2) hl hA2.2.1 hA2.2.2 (fun b4 hb4 h4 => ?_)
          refine t_mod (d := d + 2) (by decide) hl up_at hb4 (fun u V3 b3 hF3 hg3 hb3 hb3l hR3 => ?_)
          exact h6 dp _ _ _ l b0 b3 u V3 (d + 3) _ _ _ hd hD o2 hl ((hF2.br).trans hF3) ⟨hg3.trans ((up_at' (by omega)).trans hA2.1), hb3, hb3l⟩ (rel_zero (op := 37) hl hR hR2 hz h4 hR3 (fun a => rfl)) hr P hP
        · refine x_lload rfl rfl ?_
          refine x_lconst rfl ?_
          refine x_lcmp rfl ?_
          refine x_if_ne rfl (fun c95 => ?_) (fun c95 => ?_)
          rotate_left
          · exact absurd (Int64.toInt_inj.mp (lgE.mp c95)) hw
          skip
          exact t_mod (d := d + 2) hw hl hA2.2.1 hA2.2.2 (fun u V3 b3 hF3 hg3 hb3 hb3l hR3 => by exact h6 dp _ _ _ l b0 b3 u V3 (d + 3) _ _ _ hd hD o2 hl (hF2.trans hF3) ⟨hg3.trans hA2.1, hb3, hb3l⟩ (rel_bin (op := 37) hR hR2 hR3 (jn_mod hw)) hr P hP)
      · have e6 : prs o tc tv (f + 1) 8 dp i p x = (1, i, p, x) := by
          show (if tc i = 142 ∨ tc i = 147 ∨ tc i = 137 then pbd (prs o tc tv f 9 dp (i + 1) p x) (fun i' p' y => prs o tc tv f 8 dp i' p' (dBin (tc i - 100) x y)) else (1, i, p, x)) = _
          rw [if_neg (by omega)]
        rw [e6] at hr ⊢
        intro P hP
        refine x_aload_n rfl rfl ?_
        refine x_aload_n rfl rfl ?_
        refine x_getE (y := 22) rfl rfl rfl (hA.1) ?_
        refine x_callV (M' := mi216) (As := [_]) (bc1 := 0) (bs1 := 0) (bc2 := 0) (bs2 := 0) rfl rfl rfl rfl ok216 rfl rfl (by decide) rfl rfl rfl rfl rfl rfl ?_
        refine m_codeAt hE1 (by omega) ?_
        refine x_bipushN (q := 42) rfl ?_
        refine x_callS (M' := mi199) (As := [_]) (bc1 := 0) (bs1 := 0) (bc2 := 0) (bs2 := 0) rfl rfl rfl rfl ok199 rfl rfl rfl rfl rfl rfl ?_
        refine m_sign (by omega) ?_
        refine x_icmpN_eq rfl (fun c19 => ?_) (fun c19 => ?_)
        · exact absurd c19 (by first | decide | omega)
        refine x_aload_n rfl rfl ?_
        refine x_aload_n rfl rfl ?_
        refine x_getE (y := 22) rfl rfl rfl (hA.1) ?_
        refine x_callV (M' := mi216) (As := [_]) (bc1 := 0) (bs1 := 0) (bc2 := 0) (bs2 := 0) rfl rfl rfl rfl ok216 rfl rfl (by decide) rfl rfl rfl rfl rfl rfl ?_
        refine m_codeAt hE1 (by omega) ?_
        refine x_bipushN (q := 47) rfl ?_
        refine x_callS (M' := mi199) (As := [_]) (bc1 := 0) (bs1 := 0) (bc2 := 0) (bs2 := 0) rfl rfl rfl rfl ok199 rfl rfl rfl rfl rfl rfl ?_
        refine m_sign (by omega) ?_
        refine x_icmpN_eq rfl (fun c35 => ?_) (fun c35 => ?_)
        · exact absurd c35 (by first | decide | omega)
        refine x_aload_n rfl rfl ?_
        refine x_aload_n rfl rfl ?_
        refine x_getE (y := 22) rfl rfl rfl (hA.1) ?_
        refine x_callV (M' := mi216) (As := [_]) (bc1 := 0) (bs1 := 0) (bc2 := 0) (bs2 := 0) rfl rfl rfl rfl ok216 rfl rfl (by decide) rfl rfl rfl rfl rfl rfl ?_
        refine m_codeAt hE1 (by omega) ?_
        refine x_bipushN (q := 37) rfl ?_
        refine x_callS (M' := mi199) (As := [_]) (bc1 := 0) (bs1 := 0) (bc2 := 0) (bs2 := 0) rfl rfl rfl rfl ok199 rfl rfl rfl rfl rfl rfl ?_
        refine m_sign (by omega) ?_
        refine x_icmpN_ne rfl (fun c51 => ?_) (fun c51 => ?_)
        rotate_left
        · exact absurd c51 (by first | decide | omega)
        refine x_lload_n rfl rfl ?_
        refine x_lret rfl rfl ?_
        exact hP v V b hF hA hR
def LfOK (V0 : VIT) (VL : VLT) (G : VRT) (ext : HL) (B n : Nat) (e : Env) (o : Bool) (tc tv : Nat → Nat) : Prop := ∀ f dp i p x l b V D, 2 ≤ D → i ≤ n → l ≤ 1 → FrE V0 V → At B i b V → tc i ≠ 191 → (prs o tc tv (f + 1) 9 dp i p x).1 = 1 → EvL V0 VL G ext B e D mi221 0 (entL [.ref 74, .int (nI l)] 4) V l b (prs o tc tv (f + 1) 9 dp i p x)
set_option maxRecDepth 20000 in
theorem sm9 (hE : EvS K B n tc V0) (hL : LfOK V0 VL G ext B n e o tc tv) (h5 : Sm5 V0 VL G ext B n e o tc tv f) : Sm9 V0 VL G ext B n e o tc tv (f + 1) := by
  intro dp i p x l b V D hd hD hi hl hF hA hr
  by_cases c : tc i = 191
  · have hE1 := hE.fr hF
    have hn4 := hE.2.2.2.1
    have hB4 := hE.2.2.1
    by_cases hd8 : 8 ≤ dp
    · have e9 : prs o tc tv (f + 1) 9 dp i p x = (0, i, p, x) := by
        rw [prs, if_neg (by omega), if_neg (by omega), if_neg (by omega), if_neg (by omega), if_neg (by omega), if_neg (by omega), if_neg (by omega), if_neg (by omega), if_neg (by omega), if_pos rfl, if_pos c, if_pos hd8]
      rw [e9] at hr; exact absurd hr (by show ¬ 0 = 1; omega)
    · have e9 : prs o tc tv (f + 1) 9 dp i p x = pbd (prs o tc tv f 5 (dp + 1) (i + 1) p x) (fun i' p' y => if tc i' = 193 then (1, i' + 1, p', y) else (0, i', p', y)) := by
        rw [prs, if_neg (by omega), if_neg (by omega), if_neg (by omega), if_neg (by omega), if_neg (by omega), if_neg (by omega), if_neg (by omega), if_neg (by omega), if_neg (by omega), if_pos rfl, if_pos c, if_neg hd8]
      rw [e9] at hr ⊢
      obtain ⟨g1, g2⟩ := pbd_1 hr
      rw [g2] at hr ⊢
      by_cases c2 : tc (prs o tc tv f 5 (dp + 1) (i + 1) p x).2.1 = 193
      · rw [if_pos c2] at hr ⊢
        obtain ⟨d, rfl⟩ : ∃ d, D = d + 2 := ⟨D - 2, by omega⟩
        intro P hP
        have hin : i < n := Nat.lt_of_not_le (fun z => by have := hE.2.2.2.2.2.1 i z; omega)
        obtain ⟨o1, o2, o3⟩ := prs_ok (o := o) (tv := tv) hE.2.2.2.2.2.1 f 5 (dp + 1) (i + 1) p x hin g1
        refine x_aload_n rfl rfl ?_
        refine x_bipushN (q := 91) rfl ?_
        refine x_callS (M' := mi199) (As := [_]) (bc1 := 0) (bs1 := 0) (bc2 := 0) (bs2 := 0) rfl rfl rfl rfl ok199 rfl rfl rfl rfl rfl rfl ?_
        refine m_sign (by omega) ?_
        refine x_callV (M' := mi217) (As := [_]) (bc1 := 0) (bs1 := 0) (bc2 := 0) (bs2 := 0) rfl rfl rfl rfl ok217 rfl rfl (by decide) rfl rfl rfl rfl rfl rfl ?_
        refine m_passes_yes hE1 hA.1 (by omega) c (fun _ => ?_)
        refine x_ifN_eq rfl (fun c9 => ?_) (fun c9 => ?_)
        · exact absurd c9 (by first | decide | omega)
        refine x_aload_n rfl rfl ?_
        refine x_iload_n rfl rfl ?_
        refine x_callV (M' := mi219) (As := [_]) (bc1 := 0) (bs1 := 0) (bc2 := 0) (bs2 := 0) rfl rfl rfl rfl ok219 rfl rfl (by decide) rfl rfl rfl rfl rfl rfl ?_
        refine h5 (dp + 1) (i + 1) p x l b _ (d + 1) (by omega) (by omega) hin hl hF.go ⟨up_at, (up_at' (by omega)).trans hA.2.1, hA.2.2⟩ g1 _ (fun v V2 b2 hF2 hA2 hR2 => ?_)
        refine x_lstore_n (ls' := [_, _, _, _]) rfl rfl rfl ?_
        refine x_aload_n rfl rfl ?_
        refine x_dup rfl rfl ?_
        refine x_getE (y := 22) rfl rfl rfl (hA2.1) ?_
        refine x_iconstN (q := 1) rfl ?_
        refine x_iaddN rfl ?_
        refine x_putI rfl rfl rfl rfl ?_
        refine x_lload_n rfl rfl ?_
        refine x_lret rfl rfl ?_
        exact hP v _ b2 hF2.go ⟨up_at, (up_at' (by omega)).trans hA2.2.1, hA2.2.2⟩ hR2
      · rw [if_neg c2] at hr; exact absurd hr (by show ¬ 0 = 1; omega)
  · exact hL f dp i p x l b V D (by omega) hi hl hF hA c hr
set_option maxRecDepth 20000 in
theorem sm_all (hE : EvS K B n tc V0) (hL : LfOK V0 VL G ext B n e o tc tv) : ∀ f, Sm5 V0 VL G ext B n e o tc tv f ∧ Sm6 V0 VL G ext B n e o tc tv f ∧ Sm7 V0 VL G ext B n e o tc tv f ∧ Sm8 V0 VL G ext B n e o tc tv f ∧ Sm9 V0 VL G ext B n e o tc tv f
  | 0 => ⟨fun _ _ _ _ _ _ _ _ _ _ _ _ _ _ hr => absurd hr (by show ¬ 2 = 1; omega), fun _ _ _ _ _ _ _ _ _ _ _ _ _ _ _ _ _ _ _ _ hr => absurd hr (by show ¬ 2 = 1; omega), fun _ _ _ _ _ _ _ _ _ _ _ _ _ _ hr => absurd hr (by show ¬ 2 = 1; omega), fun _ _ _ _ _ _ _ _ _ _ _ _ _ _ _ _ _ _ _ _ hr => absurd hr (by show ¬ 2 = 1; omega), fun _ _ _ _ _ _ _ _ _ _ _ _ _ _ hr => absurd hr (by show ¬ 2 = 1; omega)⟩
  | f + 1 => by
    obtain ⟨h5, h6, h7, h8, h9⟩ := sm_all hE hL f
    exact ⟨sm5 hE h7 h6, sm6 hE h7 h6, sm7 hE h9 h8, sm8 hE h9 h8, sm9 hE hL h5⟩
end Ev2
