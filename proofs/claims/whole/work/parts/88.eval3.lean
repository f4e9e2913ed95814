/-! ===== the model tells tests ===== -/
def RelB (l b0 : Nat) (o : Option Int) (v : Nat) (b : Nat) : Prop := v ≤ 1 ∧ (l = 1 → b0 = 0 → (∀ a, o = some a → a = (v : Int) ∧ b = 0) ∧ (o = none → b = 1)) ∧ (l = 0 ∨ b0 = 1 → b = b0)
def EvB (V0 : VIT) (VL : VLT) (G : VRT) (ext : HL) (B : Nat) (e : Env) (D : Nat) (M : MI) (pc : Nat) (ls : List Value) (V : VIT) (l b : Nat) (r : PRd) : Prop :=
  ∀ P : Post, (∀ (v : Nat) (V' : VIT) (b' : Nat), FrE V0 V' → At B r.2.1 b' V' → RelB l b (r.2.2.2 e) v b' → P (some (.int (nI v))) (LY ++ ext) V' VL (vr G)) → Ex D M pc ls [] (LY ++ ext) V VL (vr G) 0 0 P
set_option maxRecDepth 20000 in
theorem nI01 {v : Nat} (h : v ≤ 1) : nI v = 0 ∨ nI v = 1 := by
  rcases (show v = 0 ∨ v = 1 by omega) with rfl | rfl
  · exact Or.inl rfl
  · exact Or.inr rfl
set_option maxRecDepth 20000 in
theorem rel_or {l l' b0 b b' v w u : Nat} {ox oy : Option Int} (h1 : RelB l b0 ox v b) (h2 : RelB l' b oy w b') (g1 : l = 1 → v = 0 → l' = 1) (g2 : l = 0 ∨ v = 1 → l' = 0) (g3 : v = 1 → u = 1) (g4 : v = 0 → u = w) : RelB l b0 (ox.bind (fun a => if a = 0 then oy else some a)) u b' := by
  have hv := h1.1
  have hw := h2.1
  refine ⟨?_, ?_, ?_⟩
  · rcases (show v = 0 ∨ v = 1 by omega) with z | z
    · rw [g4 z]; exact hw
    · rw [g3 z]; omega
  · intro hl h0
    obtain ⟨hs, hn⟩ := h1.2.1 hl h0
    cases ox with
    | none =>
      have e1 := hn rfl
      have e2 := h2.2.2 (Or.inr e1)
      exact ⟨fun a ha => (by cases ha), fun _ => by omega⟩
    | some a =>
      obtain ⟨q1, q2⟩ := hs a rfl
      rcases (show v = 0 ∨ v = 1 by omega) with z | z
      · have ea : a = 0 := by omega
        show (∀ a', (if a = 0 then oy else some a) = some a' → _) ∧ ((if a = 0 then oy else some a) = none → _)
        rw [if_pos ea, g4 z]
        exact h2.2.1 (g1 hl z) q2
      · have ea : ¬ a = 0 := by omega
        have e2 := h2.2.2 (Or.inl (g2 (Or.inr z)))
        show (∀ a', (if a = 0 then oy else some a) = some a' → _) ∧ ((if a = 0 then oy else some a) = none → _)
        rw [if_neg ea, g3 z]
        refine ⟨fun a' ha => ?_, fun z => (by cases z)⟩
        cases ha
        exact ⟨by omega, by omega⟩
  · intro h
    have e1 := h1.2.2 h
    rcases h with h | h
    · have e2 := h2.2.2 (Or.inl (g2 (Or.inl h))); omega
    · have e2 := h2.2.2 (Or.inr (by omega)); omega
set_option maxRecDepth 20000 in
theorem rel_and {l l' b0 b b' v w u : Nat} {ox oy : Option Int} (h1 : RelB l b0 ox v b) (h2 : RelB l' b oy w b') (g1 : l = 1 → v = 1 → l' = 1) (g2 : l = 0 ∨ v = 0 → l' = 0) (g3 : v = 0 → u = 0) (g4 : v = 1 → u = w) : RelB l b0 (ox.bind (fun a => if a = 0 then some a else oy)) u b' := by
  have hv := h1.1
  have hw := h2.1
  refine ⟨?_, ?_, ?_⟩
  · rcases (show v = 0 ∨ v = 1 by omega) with z | z
    · rw [g3 z]; omega
    · rw [g4 z]; exact hw
  · intro hl h0
    obtain ⟨hs, hn⟩ := h1.2.1 hl h0
    cases ox with
    | none =>
      have e1 := hn rfl
      have e2 := h2.2.2 (Or.inr e1)
      exact ⟨fun a ha => (by cases ha), fun _ => by omega⟩
    | some a =>
      obtain ⟨q1, q2⟩ := hs a rfl
      rcases (show v = 0 ∨ v = 1 by omega) with z | z
      · have ea : a = 0 := by omega
        have e2 := h2.2.2 (Or.inl (g2 (Or.inr z)))
        show (∀ a', (if a = 0 then some a else oy) = some a' → _) ∧ ((if a = 0 then some a else oy) = none → _)
        rw [if_pos ea, g3 z]
        refine ⟨fun a' ha => ?_, fun z => (by cases z)⟩
        cases ha
        exact ⟨by omega, by omega⟩
      · have ea : ¬ a = 0 := by omega
        show (∀ a', (if a = 0 then some a else oy) = some a' → _) ∧ ((if a = 0 then some a else oy) = none → _)
        rw [if_neg ea, g4 z]
        exact h2.2.1 (g1 hl z) q2
  · intro h
    have e1 := h1.2.2 h
    rcases h with h | h
    · have e2 := h2.2.2 (Or.inl (g2 (Or.inl h))); omega
    · have e2 := h2.2.2 (Or.inr (by omega)); omega
set_option maxRecDepth 20000 in
theorem rel_not {l b0 b v : Nat} {ox : Option Int} (h1 : RelB l b0 ox v b) : RelB l b0 (ox.bind (fun a => some (1 - a))) (1 - v) b := by
  have hv := h1.1
  refine ⟨by omega, fun hl h0 => ?_, h1.2.2⟩
  obtain ⟨hs, hn⟩ := h1.2.1 hl h0
  cases ox with
  | none => exact ⟨fun a ha => (by cases ha), fun _ => hn rfl⟩
  | some a =>
    obtain ⟨q1, q2⟩ := hs a rfl
    refine ⟨fun a' ha => ?_, fun z => (by cases z)⟩
    cases ha
    exact ⟨by omega, q2⟩
set_option maxRecDepth 20000 in
theorem rel_cmp {l b0 b b' op u : Nat} {ox oy : Option Int} {v w : Int64} (h1 : Rel l b0 ox v b) (h2 : Rel l b oy w b') (hu : u ≤ 1) (hj : l = 1 → b' = 0 → jn op v.toInt w.toInt = some (u : Int)) : RelB l b0 (ox.bind (fun a => oy.bind (fun c => jn op a c))) u b' := by
  refine ⟨hu, fun hl h0 => ?_, fun h => ?_⟩
  · obtain ⟨hs, hn⟩ := h1.1 hl h0
    cases ox with
    | none =>
      have e1 := hn rfl
      have e2 := h2.2 (Or.inr e1)
      exact ⟨fun a ha => (by cases ha), fun _ => by omega⟩
    | some a =>
      obtain ⟨q1, q2, q3, q4⟩ := hs a rfl
      obtain ⟨hs2, hn2⟩ := h2.1 hl q4
      cases oy with
      | none => exact ⟨fun a ha => (by cases ha), fun _ => hn2 rfl⟩
      | some c =>
        obtain ⟨r1, r2, r3, r4⟩ := hs2 c rfl
        show (∀ a', jn op a c = some a' → _) ∧ (jn op a c = none → _)
        rw [← q1, ← r1, hj hl r4]
        refine ⟨fun a' ha => ?_, fun z => (by cases z)⟩
        cases ha
        exact ⟨rfl, r4⟩
  · have e1 := h1.2 h
    have e2 := h2.2 (by omega)
    omega
section Ev3
variable {d : Nat} {V0 : VIT} {VL : VLT} {G : VRT} {P : Post} {ext : HL} {K : KT} {B n f : Nat} {tc tv : Nat → Nat} {o : Bool} {e : Env}
def Ts0 (V0 : VIT) (VL : VLT) (G : VRT) (ext : HL) (B n : Nat) (e : Env) (o : Bool) (tc tv : Nat → Nat) (f : Nat) : Prop := ∀ dp i p x l b V D, dp ≤ 8 → 4 * (8 - dp) + 8 ≤ D → i ≤ n → l ≤ 1 → FrE V0 V → At B i b V → (prs o tc tv f 0 dp i p x).1 = 1 → EvB V0 VL G ext B e D mi223 0 (entL [.ref 74, .int (nI l)] 4) V l b (prs o tc tv f 0 dp i p x)
def Ts1 (V0 : VIT) (VL : VLT) (G : VRT) (ext : HL) (B n : Nat) (e : Env) (o : Bool) (tc tv : Nat → Nat) (f : Nat) : Prop := ∀ dp i p x l b0 b v V D z3, dp ≤ 8 → 4 * (8 - dp) + 8 ≤ D → i ≤ n → l ≤ 1 → FrE V0 V → At B i b V → RelB l b0 (x e) v b → (prs o tc tv f 1 dp i p x).1 = 1 → EvB V0 VL G ext B e D mi223 6 [.ref 74, .int (nI l), .int (nI v), z3] V l b0 (prs o tc tv f 1 dp i p x)
def Ts2 (V0 : VIT) (VL : VLT) (G : VRT) (ext : HL) (B n : Nat) (e : Env) (o : Bool) (tc tv : Nat → Nat) (f : Nat) : Prop := ∀ dp i p x l b V D, dp ≤ 8 → 4 * (8 - dp) + 7 ≤ D → i ≤ n → l ≤ 1 → FrE V0 V → At B i b V → (prs o tc tv f 2 dp i p x).1 = 1 → EvB V0 VL G ext B e D mi224 0 (entL [.ref 74, .int (nI l)] 4) V l b (prs o tc tv f 2 dp i p x)
def Ts3 (V0 : VIT) (VL : VLT) (G : VRT) (ext : HL) (B n : Nat) (e : Env) (o : Bool) (tc tv : Nat → Nat) (f : Nat) : Prop := ∀ dp i p x l b0 b v V D z3, dp ≤ 8 → 4 * (8 - dp) + 7 ≤ D → i ≤ n → l ≤ 1 → FrE V0 V → At B i b V → RelB l b0 (x e) v b → (prs o tc tv f 3 dp i p x).1 = 1 → EvB V0 VL G ext B e D mi224 6 [.ref 74, .int (nI l), .int (nI v), z3] V l b0 (prs o tc tv f 3 dp i p x)
def Ts4 (V0 : VIT) (VL : VLT) (G : VRT) (ext : HL) (B n : Nat) (e : Env) (o : Bool) (tc tv : Nat → Nat) (f : Nat) : Prop := ∀ dp i p x l b V D, dp ≤ 8 → 4 * (8 - dp) + 6 ≤ D → i ≤ n → l ≤ 1 → FrE V0 V → At B i b V → (prs o tc tv f 4 dp i p x).1 = 1 → EvB V0 VL G ext B e D mi225 0 (entL [.ref 74, .int (nI l)] 3) V l b (prs o tc tv f 4 dp i p x)
def Ts10 (V0 : VIT) (VL : VLT) (G : VRT) (ext : HL) (B n : Nat) (e : Env) (o : Bool) (tc tv : Nat → Nat) (f : Nat) : Prop := ∀ dp i p x l b V D, dp ≤ 8 → 4 * (8 - dp) + 5 ≤ D → i ≤ n → l ≤ 1 → FrE V0 V → At B i b V → (prs o tc tv f 10 dp i p x).1 = 1 → EvB V0 VL G ext B e D mi226 0 (entL [.ref 74, .int (nI l)] 7) V l b (prs o tc tv f 10 dp i p x)
set_option maxRecDepth 20000 in
theorem ts0 (hE : EvS K B n tc V0) (h2 : Ts2 V0 VL G ext B n e o tc tv f) (h1 : Ts1 V0 VL G ext B n e o tc tv f) : Ts0 V0 VL G ext B n e o tc tv (f + 1) := by
  intro dp i p x l b V D hd hD hi hl hF hA hr
  have e5 : prs o tc tv (f + 1) 0 dp i p x = pbd (prs o tc tv f 2 dp i p x) (fun i' p' y => prs o tc tv f 1 dp i' p' y) := rfl
  rw [e5] at hr ⊢
  obtain ⟨g1, g2⟩ := pbd_1 hr
  rw [g2] at hr ⊢
  obtain ⟨o1, o2, o3⟩ := prs_ok (o := o) (tv := tv) hE.2.2.2.2.2.1 f 2 dp i p x hi g1
  obtain ⟨d, rfl⟩ : ∃ d, D = d + 8 := ⟨D - 8, by omega⟩
  intro P hP
  refine x_aload_n rfl rfl ?_
  refine x_iload_n rfl rfl ?_
  refine x_callV (M' := mi224) (As := [_]) (bc1 := 0) (bs1 := 0) (bc2 := 0) (bs2 := 0) rfl rfl rfl rfl ok224 rfl rfl (by decide) rfl rfl rfl rfl rfl rfl ?_
  refine h2 dp i p x l b V (d + 7) hd (by omega) hi hl hF hA g1 _ (fun v V' b' hF' hA' hR => ?_)
  refine x_istore_n (ls' := [_, _, _, _]) rfl rfl rfl ?_
  exact h1 dp _ _ _ l b b' v V' (d + 8) _ hd hD o2 hl hF' hA' hR hr P hP
set_option maxRecDepth 20000 in
theorem ts2 (hE : EvS K B n tc V0) (h2 : Ts4 V0 VL G ext B n e o tc tv f) (h1 : Ts3 V0 VL G ext B n e o tc tv f) : Ts2 V0 VL G ext B n e o tc tv (f + 1) := by
  intro dp i p x l b V D hd hD hi hl hF hA hr
  have e5 : prs o tc tv (f + 1) 2 dp i p x = pbd (prs o tc tv f 4 dp i p x) (fun i' p' y => prs o tc tv f 3 dp i' p' y) := rfl
  rw [e5] at hr ⊢
  obtain ⟨g1, g2⟩ := pbd_1 hr
  rw [g2] at hr ⊢
  obtain ⟨o1, o2, o3⟩ := prs_ok (o := o) (tv := tv) hE.2.2.2.2.2.1 f 4 dp i p x hi g1
  obtain ⟨d, rfl⟩ : ∃ d, D = d + 7 := ⟨D - 7, by omega⟩
  intro P hP
  refine x_aload_n rfl rfl ?_
  refine x_iload_n rfl rfl ?_
  refine x_callV (M' := mi225) (As := [_]) (bc1 := 0) (bs1 := 0) (bc2 := 0) (bs2 := 0) rfl rfl rfl rfl ok225 rfl rfl (by decide) rfl rfl rfl rfl rfl rfl ?_
  refine h2 dp i p x l b V (d + 6) hd (by omega) hi hl hF hA g1 _ (fun v V' b' hF' hA' hR => ?_)
  refine x_istore_n (ls' := [_, _, _, _]) rfl rfl rfl ?_
  exact h1 dp _ _ _ l b b' v V' (d + 7) _ hd hD o2 hl hF' hA' hR hr P hP
set_option maxRecDepth 20000 in
theorem ts1 (hE : EvS K B n tc V0) (h2 : Ts2 V0 VL G ext B n e o tc tv f) (h1 : Ts1 V0 VL G ext B n e o tc tv f) : Ts1 V0 VL G ext B n e o tc tv (f + 1) := by
  intro dp i p x l b0 b v V D z3 hd hD hi hl hF hA hR hr
  have hE1 := hE.fr hF
  have hn4 := hE.2.2.2.1
  have hB4 := hE.2.2.1
  have hv := hR.1
  obtain ⟨d, rfl⟩ : ∃ d, D = d + 8 := ⟨D - 8, by omega⟩
  have e6 : prs o tc tv (f + 1) 1 dp i p x = if tc i = 5 then pbd (prs o tc tv f 2 dp (i + 1) p x) (fun i' p' y => prs o tc tv f 1 dp i' p' (dOr x y)) else (1, i, p, x) := rfl
  rw [e6] at hr ⊢
  by_cases c : tc i = 5
  · rw [if_pos c] at hr ⊢
    obtain ⟨g1, g2⟩ := pbd_1 hr
    rw [g2] at hr ⊢
    have hin : i < n := Nat.lt_of_not_le (fun z => by have := hE.2.2.2.2.2.1 i z; omega)
    obtain ⟨o1, o2, o3⟩ := prs_ok (o := o) (tv := tv) hE.2.2.2.2.2.1 f 2 dp (i + 1) p x hin g1
    intro P hP
    rcases (show l = 0 ∨ l = 1 by omega) with rfl | rfl
    · rcases (show v = 0 ∨ v = 1 by omega) with rfl | rfl
      · refine x_aload_n rfl rfl ?_
        refine x_iconstN (q := 5) rfl ?_
        refine x_callV (M' := mi217) (As := [_]) (bc1 := 0) (bs1 := 0) (bc2 := 0) (bs2 := 0) rfl rfl rfl rfl ok217 rfl rfl (by decide) rfl rfl rfl rfl rfl rfl ?_
        refine m_passes_yes hE1 hA.1 (by omega) c (fun hin => ?_)
        refine x_ifN_eq rfl (fun c11 => ?_) (fun c11 => ?_)
        · exact absurd c11 (by first | decide | omega)
        refine x_aload_n rfl rfl ?_
        refine x_iload_n rfl rfl ?_
        refine x_ifN_eq rfl (fun c16 => ?_) (fun c16 => ?_)
        rotate_left
        · exact absurd c16 (by first | decide | omega)
        refine x_iconstN (q := 0) rfl ?_
        refine x_callV (M' := mi224) (As := [_]) (bc1 := 0) (bs1 := 0) (bc2 := 0) (bs2 := 0) rfl rfl rfl rfl ok224 rfl rfl (by decide) rfl rfl rfl rfl rfl rfl ?_
        refine h2 dp (i + 1) p x 0 b _ (d + 7) hd (by omega) hin (by omega) hF.go ⟨up_at, (up_at' (by omega)).trans hA.2.1, hA.2.2⟩ g1 _ (fun w V2 b2 hF2 hA2 hR2 => ?_)
        have hw1 := hR2.1
        refine x_istore_n (ls' := [_, _, _, _]) rfl rfl rfl ?_
        refine x_iload_n rfl rfl ?_
        refine x_ifN_ne rfl (fun c33 => ?_) (fun c33 => ?_)
        · exact absurd c33 (by first | decide | omega)
        refine x_iload_n rfl rfl ?_
        refine x_ifN_eq rfl (fun c37 => ?_) (fun c37 => ?_)
        · refine x_iconstN (q := 0) rfl ?_
          refine x_istore_n (ls' := [_, _, _, _]) rfl rfl rfl ?_
          refine x_goto rfl ?_
          first | (have ew : w = 0 := c37; subst ew; exact h1 dp _ _ _ 0 b0 b2 0 V2 (d + 8) _ hd hD o2 hl hF2 hA2 (rel_or hR hR2 (by omega) (by omega) (by omega) (by omega)) hr P hP) | (have ew : w = 1 := (by have := hR2.1; omega); subst ew; exact h1 dp _ _ _ 0 b0 b2 1 V2 (d + 8) _ hd hD o2 hl hF2 hA2 (rel_or hR hR2 (by omega) (by omega) (by omega) (by omega)) hr P hP)
        · refine x_iconstN (q := 1) rfl ?_
          refine x_goto rfl ?_
          refine x_istore_n (ls' := [_, _, _, _]) rfl rfl rfl ?_
          refine x_goto rfl ?_
          first | (have ew : w = 0 := c37; subst ew; exact h1 dp _ _ _ 0 b0 b2 0 V2 (d + 8) _ hd hD o2 hl hF2 hA2 (rel_or hR hR2 (by omega) (by omega) (by omega) (by omega)) hr P hP) | (have ew : w = 1 := (by have := hR2.1; omega); subst ew; exact h1 dp _ _ _ 0 b0 b2 1 V2 (d + 8) _ hd hD o2 hl hF2 hA2 (rel_or hR hR2 (by omega) (by omega) (by omega) (by omega)) hr P hP)
      · refine x_aload_n rfl rfl ?_
        refine x_iconstN (q := 5) rfl ?_
        refine x_callV (M' := mi217) (As := [_]) (bc1 := 0) (bs1 := 0) (bc2 := 0) (bs2 := 0) rfl rfl rfl rfl ok217 rfl rfl (by decide) rfl rfl rfl rfl rfl rfl ?_
        refine m_passes_yes hE1 hA.1 (by omega) c (fun hin => ?_)
        refine x_ifN_eq rfl (fun c11 => ?_) (fun c11 => ?_)
        · exact absurd c11 (by first | decide | omega)
        refine x_aload_n rfl rfl ?_
        refine x_iload_n rfl rfl ?_
        refine x_ifN_eq rfl (fun c16 => ?_) (fun c16 => ?_)
        rotate_left
        · exact absurd c16 (by first | decide | omega)
        refine x_iconstN (q := 0) rfl ?_
        refine x_callV (M' := mi224) (As := [_]) (bc1 := 0) (bs1 := 0) (bc2 := 0) (bs2 := 0) rfl rfl rfl rfl ok224 rfl rfl (by decide) rfl rfl rfl rfl rfl rfl ?_
        refine h2 dp (i + 1) p x 0 b _ (d + 7) hd (by omega) hin (by omega) hF.go ⟨up_at, (up_at' (by omega)).trans hA.2.1, hA.2.2⟩ g1 _ (fun w V2 b2 hF2 hA2 hR2 => ?_)
        have hw1 := hR2.1
        refine x_istore_n (ls' := [_, _, _, _]) rfl rfl rfl ?_
        refine x_iload_n rfl rfl ?_
        refine x_ifN_ne rfl (fun c33 => ?_) (fun c33 => ?_)
        rotate_left
        · exact absurd c33 (by first | decide | omega)
        refine x_iconstN (q := 1) rfl ?_
        refine x_goto rfl ?_
        refine x_istore_n (ls' := [_, _, _, _]) rfl rfl rfl ?_
        refine x_goto rfl ?_
        exact h1 dp _ _ _ 0 b0 b2 1 V2 (d + 8) _ hd hD o2 hl hF2 hA2 (rel_or hR hR2 (by omega) (by omega) (by omega) (by omega)) hr P hP
    · rcases (show v = 0 ∨ v = 1 by omega) with rfl | rfl
      · refine x_aload_n rfl rfl ?_
        refine x_iconstN (q := 5) rfl ?_
        refine x_callV (M' := mi217) (As := [_]) (bc1 := 0) (bs1 := 0) (bc2 := 0) (bs2 := 0) rfl rfl rfl rfl ok217 rfl rfl (by decide) rfl rfl rfl rfl rfl rfl ?_
        refine m_passes_yes hE1 hA.1 (by omega) c (fun hin => ?_)
        refine x_ifN_eq rfl (fun c11 => ?_) (fun c11 => ?_)
        · exact absurd c11 (by first | decide | omega)
        refine x_aload_n rfl rfl ?_
        refine x_iload_n rfl rfl ?_
        refine x_ifN_eq rfl (fun c16 => ?_) (fun c16 => ?_)
        · exact absurd c16 (by first | decide | omega)
        refine x_iload_n rfl rfl ?_
        refine x_ifN_ne rfl (fun c20 => ?_) (fun c20 => ?_)
        · exact absurd c20 (by first | decide | omega)
        refine x_iconstN (q := 1) rfl ?_
        refine x_goto rfl ?_
        refine x_callV (M' := mi224) (As := [_]) (bc1 := 0) (bs1 := 0) (bc2 := 0) (bs2 := 0) rfl rfl rfl rfl ok224 rfl rfl (by decide) rfl rfl rfl rfl rfl rfl ?_
        refine h2 dp (i + 1) p x 1 b _ (d + 7) hd (by omega) hin (by omega) hF.go ⟨up_at, (up_at' (by omega)).trans hA.2.1, hA.2.2⟩ g1 _ (fun w V2 b2 hF2 hA2 hR2 => ?_)
        have hw1 := hR2.1
        refine x_istore_n (ls' := [_, _, _, _]) rfl rfl rfl ?_
        refine x_iload_n rfl rfl ?_
        refine x_ifN_ne rfl (fun c33 => ?_) (fun c33 => ?_)
        · exact absurd c33 (by first | decide | omega)
        refine x_iload_n rfl rfl ?_
        refine x_ifN_eq rfl (fun c37 => ?_) (fun c37 => ?_)
        · refine x_iconstN (q := 0) rfl ?_
          refine x_istore_n (ls' := [_, _, _, _]) rfl rfl rfl ?_
          refine x_goto rfl ?_
          first | (have ew : w = 0 := c37; subst ew; exact h1 dp _ _ _ 1 b0 b2 0 V2 (d + 8) _ hd hD o2 hl hF2 hA2 (rel_or hR hR2 (by omega) (by omega) (by omega) (by omega)) hr P hP) | (have ew : w = 1 := (by have := hR2.1; omega); subst ew; exact h1 dp _ _ _ 1 b0 b2 1 V2 (d + 8) _ hd hD o2 hl hF2 hA2 (rel_or hR hR2 (by omega) (by omega) (by omega) (by omega)) hr P hP)
        · refine x_iconstN (q := 1) rfl ?_
          refine x_goto rfl ?_
          refine x_istore_n (ls' := [_, _, _, _]) rfl rfl rfl ?_
          refine x_goto rfl ?_
          first | (have ew : w = 0 := c37; subst ew; exact h1 dp _ _ _ 1 b0 b2 0 V2 (d + 8) _ hd hD o2 hl hF2 hA2 (rel_or hR hR2 (by omega) (by omega) (by omega) (by omega)) hr P hP) | (have ew : w = 1 := (by have := hR2.1; omega); subst ew; exact h1 dp _ _ _ 1 b0 b2 1 V2 (d + 8) _ hd hD o2 hl hF2 hA2 (rel_or hR hR2 (by omega) (by omega) (by omega) (by omega)) hr P hP)
      · refine x_aload_n rfl rfl ?_
        refine x_iconstN (q := 5) rfl ?_
        refine x_callV (M' := mi217) (As := [_]) (bc1 := 0) (bs1 := 0) (bc2 := 0) (bs2 := 0) rfl rfl rfl rfl ok217 rfl rfl (by decide) rfl rfl rfl rfl rfl rfl ?_
        refine m_passes_yes hE1 hA.1 (by omega) c (fun hin => ?_)
        refine x_ifN_eq rfl (fun c11 => ?_) (fun c11 => ?_)
        · exact absurd c11 (by first | decide | omega)
        refine x_aload_n rfl rfl ?_
        refine x_iload_n rfl rfl ?_
        refine x_ifN_eq rfl (fun c16 => ?_) (fun c16 => ?_)
        · exact absurd c16 (by first | decide | omega)
        refine x_iload_n rfl rfl ?_
        refine x_ifN_ne rfl (fun c20 => ?_) (fun c20 => ?_)
        rotate_left
        · exact absurd c20 (by first | decide | omega)
        refine x_iconstN (q := 0) rfl ?_
        refine x_callV (M' := mi224) (As := [_]) (bc1 := 0) (bs1 := 0) (bc2 := 0) (bs2 := 0) rfl rfl rfl rfl ok224 rfl rfl (by decide) rfl rfl rfl rfl rfl rfl ?_
        refine h2 dp (i + 1) p x 0 b _ (d + 7) hd (by omega) hin (by omega) hF.go ⟨up_at, (up_at' (by omega)).trans hA.2.1, hA.2.2⟩ g1 _ (fun w V2 b2 hF2 hA2 hR2 => ?_)
        have hw1 := hR2.1
        refine x_istore_n (ls' := [_, _, _, _]) rfl rfl rfl ?_
        refine x_iload_n rfl rfl ?_
        refine x_ifN_ne rfl (fun c33 => ?_) (fun c33 => ?_)
        rotate_left
        · exact absurd c33 (by first | decide | omega)
        refine x_iconstN (q := 1) rfl ?_
        refine x_goto rfl ?_
        refine x_istore_n (ls' := [_, _, _, _]) rfl rfl rfl ?_
        refine x_goto rfl ?_
        exact h1 dp _ _ _ 1 b0 b2 1 V2 (d + 8) _ hd hD o2 hl hF2 hA2 (rel_or hR hR2 (by omega) (by omega) (by omega) (by omega)) hr P hP
  · rw [if_neg c] at hr ⊢
    intro P hP
    refine x_aload_n rfl rfl ?_
    refine x_iconstN (q := 5) rfl ?_
    refine x_callV (M' := mi217) (As := [_]) (bc1 := 0) (bs1 := 0) (bc2 := 0) (bs2 := 0) rfl rfl rfl rfl ok217 rfl rfl (by decide) rfl rfl rfl rfl rfl rfl ?_
    refine m_passes_no hE1 hA.1 (by omega) (by omega) c ?_
    refine x_ifN_eq rfl (fun c11 => ?_) (fun c11 => ?_)
    rotate_left
    · exact absurd c11 (by first | decide | omega)
    refine x_iload_n rfl rfl ?_
    refine x_zret rfl rfl (nI01 hv) ?_
    exact hP v V b hF hA hR
set_option maxRecDepth 20000 in
theorem ts3 (hE : EvS K B n tc V0) (h2 : Ts4 V0 VL G ext B n e o tc tv f) (h1 : Ts3 V0 VL G ext B n e o tc tv f) : Ts3 V0 VL G ext B n e o tc tv (f + 1) := by
  intro dp i p x l b0 b v V D z3 hd hD hi hl hF hA hR hr
  have hE1 := hE.fr hF
  have hn4 := hE.2.2.2.1
  have hB4 := hE.2.2.1
  have hv := hR.1
  obtain ⟨d, rfl⟩ : ∃ d, D = d + 7 := ⟨D - 7, by omega⟩
  have e6 : prs o tc tv (f + 1) 3 dp i p x = if tc i = 6 then pbd (prs o tc tv f 4 dp (i + 1) p x) (fun i' p' y => prs o tc tv f 3 dp i' p' (dAnd x y)) else (1, i, p, x) := rfl
  rw [e6] at hr ⊢
  by_cases c : tc i = 6
  · rw [if_pos c] at hr ⊢
    obtain ⟨g1, g2⟩ := pbd_1 hr
    rw [g2] at hr ⊢
    have hin : i < n := Nat.lt_of_not_le (fun z => by have := hE.2.2.2.2.2.1 i z; omega)
    obtain ⟨o1, o2, o3⟩ := prs_ok (o := o) (tv := tv) hE.2.2.2.2.2.1 f 4 dp (i + 1) p x hin g1
    intro P hP
    rcases (show l = 0 ∨ l = 1 by omega) with rfl | rfl
    · rcases (show v = 0 ∨ v = 1 by omega) with rfl | rfl
      · refine x_aload_n rfl rfl ?_
        refine x_bipushN (q := 6) rfl ?_
        refine x_callV (M' := mi217) (As := [_]) (bc1 := 0) (bs1 := 0) (bc2 := 0) (bs2 := 0) rfl rfl rfl rfl ok217 rfl rfl (by decide) rfl rfl rfl rfl rfl rfl ?_
        refine m_passes_yes hE1 hA.1 (by omega) c (fun hin => ?_)
        refine x_ifN_eq rfl (fun c12 => ?_) (fun c12 => ?_)
        · exact absurd c12 (by first | decide | omega)
        refine x_aload_n rfl rfl ?_
        refine x_iload_n rfl rfl ?_
        refine x_ifN_eq rfl (fun c17 => ?_) (fun c17 => ?_)
        rotate_left
        · exact absurd c17 (by first | decide | omega)
        refine x_iconstN (q := 0) rfl ?_
        refine x_callV (M' := mi225) (As := [_]) (bc1 := 0) (bs1 := 0) (bc2 := 0) (bs2 := 0) rfl rfl rfl rfl ok225 rfl rfl (by decide) rfl rfl rfl rfl rfl rfl ?_
        refine h2 dp (i + 1) p x 0 b _ (d + 6) hd (by omega) hin (by omega) hF.go ⟨up_at, (up_at' (by omega)).trans hA.2.1, hA.2.2⟩ g1 _ (fun w V2 b2 hF2 hA2 hR2 => ?_)
        have hw1 := hR2.1
        refine x_istore_n (ls' := [_, _, _, _]) rfl rfl rfl ?_
        refine x_iload_n rfl rfl ?_
        refine x_ifN_eq rfl (fun c34 => ?_) (fun c34 => ?_)
        rotate_left
        · exact absurd c34 (by first | decide | omega)
        refine x_iconstN (q := 0) rfl ?_
        refine x_istore_n (ls' := [_, _, _, _]) rfl rfl rfl ?_
        refine x_goto rfl ?_
        exact h1 dp _ _ _ 0 b0 b2 0 V2 (d + 7) _ hd hD o2 hl hF2 hA2 (rel_and hR hR2 (by omega) (by omega) (by omega) (by omega)) hr P hP
      · refine x_aload_n rfl rfl ?_
        refine x_bipushN (q := 6) rfl ?_
        refine x_callV (M' := mi217) (As := [_]) (bc1 := 0) (bs1 := 0) (bc2 := 0) (bs2 := 0) rfl rfl rfl rfl ok217 rfl rfl (by decide) rfl rfl rfl rfl rfl rfl ?_
        refine m_passes_yes hE1 hA.1 (by omega) c (fun hin => ?_)
        refine x_ifN_eq rfl (fun c12 => ?_) (fun c12 => ?_)
        · exact absurd c12 (by first | decide | omega)
        refine x_aload_n rfl rfl ?_
        refine x_iload_n rfl rfl ?_
        refine x_ifN_eq rfl (fun c17 => ?_) (fun c17 => ?_)
        rotate_left
        · exact absurd c17 (by first | decide | omega)
        refine x_iconstN (q := 0) rfl ?_
        refine x_callV (M' := mi225) (As := [_]) (bc1 := 0) (bs1 := 0) (bc2 := 0) (bs2 := 0) rfl rfl rfl rfl ok225 rfl rfl (by decide) rfl rfl rfl rfl rfl rfl ?_
        refine h2 dp (i + 1) p x 0 b _ (d + 6) hd (by omega) hin (by omega) hF.go ⟨up_at, (up_at' (by omega)).trans hA.2.1, hA.2.2⟩ g1 _ (fun w V2 b2 hF2 hA2 hR2 => ?_)
        have hw1 := hR2.1
        refine x_istore_n (ls' := [_, _, _, _]) rfl rfl rfl ?_
        refine x_iload_n rfl rfl ?_
        refine x_ifN_eq rfl (fun c34 => ?_) (fun c34 => ?_)
        · exact absurd c34 (by first | decide | omega)
        refine x_iload_n rfl rfl ?_
        refine x_ifN_eq rfl (fun c38 => ?_) (fun c38 => ?_)
        · refine x_iconstN (q := 0) rfl ?_
          refine x_istore_n (ls' := [_, _, _, _]) rfl rfl rfl ?_
          refine x_goto rfl ?_
          first | (have ew : w = 0 := c38; subst ew; exact h1 dp _ _ _ 0 b0 b2 0 V2 (d + 7) _ hd hD o2 hl hF2 hA2 (rel_and hR hR2 (by omega) (by omega) (by omega) (by omega)) hr P hP) | (have ew : w = 1 := (by have := hR2.1; omega); subst ew; exact h1 dp _ _ _ 0 b0 b2 1 V2 (d + 7) _ hd hD o2 hl hF2 hA2 (rel_and hR hR2 (by omega) (by omega) (by omega) (by omega)) hr P hP)
        · refine x_iconstN (q := 1) rfl ?_
          refine x_goto rfl ?_
          refine x_istore_n (ls' := [_, _, _, _]) rfl rfl rfl ?_
          refine x_goto rfl ?_
          first | (have ew : w = 0 := c38; subst ew; exact h1 dp _ _ _ 0 b0 b2 0 V2 (d + 7) _ hd hD o2 hl hF2 hA2 (rel_and hR hR2 (by omega) (by omega) (by omega) (by omega)) hr P hP) | (have ew : w = 1 := (by have := hR2.1; omega); subst ew; exact h1 dp _ _ _ 0 b0 b2 1 V2 (d + 7) _ hd hD o2 hl hF2 hA2 (rel_and hR hR2 (by omega) (by omega) (by omega) (by omega)) hr P hP)
    · rcases (show v = 0 ∨ v = 1 by omega) with rfl | rfl
      · refine x_aload_n rfl rfl ?_
        refine x_bipushN (q := 6) rfl ?_
        refine x_callV (M' := mi217) (As := [_]) (bc1 := 0) (bs1 := 0) (bc2 := 0) (bs2 := 0) rfl rfl rfl rfl ok217 rfl rfl (by decide) rfl rfl rfl rfl rfl rfl ?_
        refine m_passes_yes hE1 hA.1 (by omega) c (fun hin => ?_)
        refine x_ifN_eq rfl (fun c12 => ?_) (fun c12 => ?_)
        · exact absurd c12 (by first | decide | omega)
        refine x_aload_n rfl rfl ?_
        refine x_iload_n rfl rfl ?_
        refine x_ifN_eq rfl (fun c17 => ?_) (fun c17 => ?_)
        · exact absurd c17 (by first | decide | omega)
        refine x_iload_n rfl rfl ?_
        refine x_ifN_eq rfl (fun c21 => ?_) (fun c21 => ?_)
        rotate_left
        · exact absurd c21 (by first | decide | omega)
        refine x_iconstN (q := 0) rfl ?_
        refine x_callV (M' := mi225) (As := [_]) (bc1 := 0) (bs1 := 0) (bc2 := 0) (bs2 := 0) rfl rfl rfl rfl ok225 rfl rfl (by decide) rfl rfl rfl rfl rfl rfl ?_
        refine h2 dp (i + 1) p x 0 b _ (d + 6) hd (by omega) hin (by omega) hF.go ⟨up_at, (up_at' (by omega)).trans hA.2.1, hA.2.2⟩ g1 _ (fun w V2 b2 hF2 hA2 hR2 => ?_)
        have hw1 := hR2.1
        refine x_istore_n (ls' := [_, _, _, _]) rfl rfl rfl ?_
        refine x_iload_n rfl rfl ?_
        refine x_ifN_eq rfl (fun c34 => ?_) (fun c34 => ?_)
        rotate_left
        · exact absurd c34 (by first | decide | omega)
        refine x_iconstN (q := 0) rfl ?_
        refine x_istore_n (ls' := [_, _, _, _]) rfl rfl rfl ?_
        refine x_goto rfl ?_
        exact h1 dp _ _ _ 1 b0 b2 0 V2 (d + 7) _ hd hD o2 hl hF2 hA2 (rel_and hR hR2 (by omega) (by omega) (by omega) (by omega)) hr P hP
      · refine x_aload_n rfl rfl ?_
        refine x_bipushN (q := 6) rfl ?_
        refine x_callV (M' := mi217) (As := [_]) (bc1 := 0) (bs1 := 0) (bc2 := 0) (bs2 := 0) rfl rfl rfl rfl ok217 rfl rfl (by decide) rfl rfl rfl rfl rfl rfl ?_
        refine m_passes_yes hE1 hA.1 (by omega) c (fun hin => ?_)
        refine x_ifN_eq rfl (fun c12 => ?_) (fun c12 => ?_)
        · exact absurd c12 (by first | decide | omega)
        refine x_aload_n rfl rfl ?_
        refine x_iload_n rfl rfl ?_
        refine x_ifN_eq rfl (fun c17 => ?_) (fun c17 => ?_)
        · exact absurd c17 (by first | decide | omega)
        refine x_iload_n rfl rfl ?_
        refine x_ifN_eq rfl (fun c21 => ?_) (fun c21 => ?_)
        · exact absurd c21 (by first | decide | omega)
        refine x_iconstN (q := 1) rfl ?_
        refine x_goto rfl ?_
        refine x_callV (M' := mi225) (As := [_]) (bc1 := 0) (bs1 := 0) (bc2 := 0) (bs2 := 0) rfl rfl rfl rfl ok225 rfl rfl (by decide) rfl rfl rfl rfl rfl rfl ?_
        refine h2 dp (i + 1) p x 1 b _ (d + 6) hd (by omega) hin (by omega) hF.go ⟨up_at, (up_at' (by omega)).trans hA.2.1, hA.2.2⟩ g1 _ (fun w V2 b2 hF2 hA2 hR2 => ?_)
        have hw1 := hR2.1
        refine x_istore_n (ls' := [_, _, _, _]) rfl rfl rfl ?_
        refine x_iload_n rfl rfl ?_
        refine x_ifN_eq rfl (fun c34 => ?_) (fun c34 => ?_)
        · exact absurd c34 (by first | decide | omega)
        refine x_iload_n rfl rfl ?_
        refine x_ifN_eq rfl (fun c38 => ?_) (fun c38 => ?_)
        · refine x_iconstN (q := 0) rfl ?_
          refine x_istore_n (ls' := [_, _, _, _]) rfl rfl rfl ?_
          refine x_goto rfl ?_
          first | (have ew : w = 0 := c38; subst ew; exact h1 dp _ _ _ 1 b0 b2 0 V2 (d + 7) _ hd hD o2 hl hF2 hA2 (rel_and hR hR2 (by omega) (by omega) (by omega) (by omega)) hr P hP) | (have ew : w = 1 := (by have := hR2.1; omega); subst ew; exact h1 dp _ _ _ 1 b0 b2 1 V2 (d + 7) _ hd hD o2 hl hF2 hA2 (rel_and hR hR2 (by omega) (by omega) (by omega) (by omega)) hr P hP)
        · refine x_iconstN (q := 1) rfl ?_
          refine x_goto rfl ?_
          refine x_istore_n (ls' := [_, _, _, _]) rfl rfl rfl ?_
          refine x_goto rfl ?_
          first | (have ew : w = 0 := c38; subst ew; exact h1 dp _ _ _ 1 b0 b2 0 V2 (d + 7) _ hd hD o2 hl hF2 hA2 (rel_and hR hR2 (by omega) (by omega) (by omega) (by omega)) hr P hP) | (have ew : w = 1 := (by have := hR2.1; omega); subst ew; exact h1 dp _ _ _ 1 b0 b2 1 V2 (d + 7) _ hd hD o2 hl hF2 hA2 (rel_and hR hR2 (by omega) (by omega) (by omega) (by omega)) hr P hP)
  · rw [if_neg c] at hr ⊢
    intro P hP
    refine x_aload_n rfl rfl ?_
    refine x_bipushN (q := 6) rfl ?_
    refine x_callV (M' := mi217) (As := [_]) (bc1 := 0) (bs1 := 0) (bc2 := 0) (bs2 := 0) rfl rfl rfl rfl ok217 rfl rfl (by decide) rfl rfl rfl rfl rfl rfl ?_
    refine m_passes_no hE1 hA.1 (by omega) (by omega) c ?_
    refine x_ifN_eq rfl (fun c12 => ?_) (fun c12 => ?_)
    rotate_left
    · exact absurd c12 (by first | decide | omega)
    refine x_iload_n rfl rfl ?_
    refine x_zret rfl rfl (nI01 hv) ?_
    exact hP v V b hF hA hR
set_option maxRecDepth 20000 in
theorem pl_loop {l b : Nat} (hE : EvS K B n tc V0) (hl : l ≤ 1) : ∀ (m i nt : Nat) (V : VIT), nrun tc 7 i m < m → i ≤ n → nt ≤ 1 → FrE V0 V → At B i b V → (∀ V' : VIT, FrE V0 V' → At B (i + nrun tc 7 i m) b V' → Ex (d + 2) mi225 24 [.ref 74, .int (nI l), .int (nI ((nt + nrun tc 7 i m) % 2))] [] (LY ++ ext) V' VL (vr G) 0 0 P) → Ex (d + 2) mi225 2 [.ref 74, .int (nI l), .int (nI nt)] [] (LY ++ ext) V VL (vr G) 0 0 P := by
  have hn4 := hE.2.2.2.1
  intro m
  induction m with
  | zero => exact fun i nt V h => absurd h (by omega)
  | succ m ih =>
    intro i nt V hm hi hnt hF hA hP
    have hE1 := hE.fr hF
    have e : nrun tc 7 i (m + 1) = if tc i = 7 then nrun tc 7 (i + 1) m + 1 else 0 := rfl
    rw [e] at hm hP
    by_cases c : tc i = 7
    · rw [if_pos c] at hm hP
      have hP' : ∀ t, t ≤ 1 → t = (nt + 1) % 2 → ∀ V' : VIT, FrE V0 V' → At B (i + 1 + nrun tc 7 (i + 1) m) b V' → Ex (d + 2) mi225 24 [.ref 74, .int (nI l), .int (nI ((t + nrun tc 7 (i + 1) m) % 2))] [] (LY ++ ext) V' VL (vr G) 0 0 P := fun t _ ht V' q1 q2 => by
        have := hP V' q1 (by rw [show i + (nrun tc 7 (i + 1) m + 1) = i + 1 + nrun tc 7 (i + 1) m by omega]; exact q2)
        rw [show (nt + (nrun tc 7 (i + 1) m + 1)) % 2 = (t + nrun tc 7 (i + 1) m) % 2 by omega] at this
        exact this
      rcases (show nt = 0 ∨ nt = 1 by omega) with rfl | rfl
      · refine x_aload_n rfl rfl ?_
        refine x_bipushN (q := 7) rfl ?_
        refine x_callV (M' := mi217) (As := [_]) (bc1 := 0) (bs1 := 0) (bc2 := 0) (bs2 := 0) rfl rfl rfl rfl ok217 rfl rfl (by decide) rfl rfl rfl rfl rfl rfl ?_
        refine m_passes_yes hE1 hA.1 (by omega) c (fun hin => ?_)
        refine x_ifN_eq rfl (fun c8 => ?_) (fun c8 => ?_)
        · exact absurd c8 (by first | decide | omega)
        refine x_iload_n rfl rfl ?_
        refine x_ifN_ne rfl (fun c12 => ?_) (fun c12 => ?_)
        · exact absurd c12 (by first | decide | omega)
        refine x_iconstN (q := 1) rfl ?_
        refine x_goto rfl ?_
        refine x_istore_n (ls' := [_, _, _]) rfl rfl rfl ?_
        refine x_goto rfl ?_
        exact ih (i + 1) 1 _ (by omega) hin (by omega) hF.go ⟨up_at, (up_at' (by omega)).trans hA.2.1, hA.2.2⟩ (hP' 1 (by omega) (by omega))
      · refine x_aload_n rfl rfl ?_
        refine x_bipushN (q := 7) rfl ?_
        refine x_callV (M' := mi217) (As := [_]) (bc1 := 0) (bs1 := 0) (bc2 := 0) (bs2 := 0) rfl rfl rfl rfl ok217 rfl rfl (by decide) rfl rfl rfl rfl rfl rfl ?_
        refine m_passes_yes hE1 hA.1 (by omega) c (fun hin => ?_)
        refine x_ifN_eq rfl (fun c8 => ?_) (fun c8 => ?_)
        · exact absurd c8 (by first | decide | omega)
        refine x_iload_n rfl rfl ?_
        refine x_ifN_ne rfl (fun c12 => ?_) (fun c12 => ?_)
        rotate_left
        · exact absurd c12 (by first | decide | omega)
        refine x_iconstN (q := 0) rfl ?_
        refine x_istore_n (ls' := [_, _, _]) rfl rfl rfl ?_
        refine x_goto rfl ?_
        exact ih (i + 1) 0 _ (by omega) hin (by omega) hF.go ⟨up_at, (up_at' (by omega)).trans hA.2.1, hA.2.2⟩ (hP' 0 (by omega) (by omega))
    · rw [if_neg c] at hP
      have hk := hP V hF hA
      rw [show (nt + 0) % 2 = nt by omega] at hk
      refine x_aload_n rfl rfl ?_
      refine x_bipushN (q := 7) rfl ?_
      refine x_callV (M' := mi217) (As := [_]) (bc1 := 0) (bs1 := 0) (bc2 := 0) (bs2 := 0) rfl rfl rfl rfl ok217 rfl rfl (by decide) rfl rfl rfl rfl rfl rfl ?_
      refine m_passes_no hE1 hA.1 (by omega) (by omega) c ?_
      refine x_ifN_eq rfl (fun c8 => ?_) (fun c8 => ?_)
      rotate_left
      · exact absurd c8 (by first | decide | omega)
      exact hk
set_option maxRecDepth 20000 in
theorem ts4 (hE : EvS K B n tc V0) (h10 : Ts10 V0 VL G ext B n e o tc tv f) : Ts4 V0 VL G ext B n e o tc tv (f + 1) := by
  intro dp i p x l b V D hd hD hi hl hF hA hr
  have hn4 := hE.2.2.2.1
  have e5 : prs o tc tv (f + 1) 4 dp i p x = pbd (prs o tc tv f 10 dp (i + nrun tc 7 i 401) p x) (fun i' p' y => (1, i', p', if nrun tc 7 i 401 % 2 = 1 then dNot y else y)) := rfl
  rw [e5] at hr ⊢
  obtain ⟨g1, g2⟩ := pbd_1 hr
  rw [g2]
  obtain ⟨k1, k2⟩ := nrun_ok (c := 7) hE.2.2.2.2.2.1 (by omega) (by omega) 401 i hi
  obtain ⟨d, rfl⟩ : ∃ d, D = d + 6 := ⟨D - 6, by omega⟩
  intro P hP
  refine x_iconstN (q := 0) rfl ?_
  refine x_istore_n (ls' := [_, _, _]) rfl rfl rfl ?_
  skip
  refine pl_loop (d := d + 4) hE hl 401 i 0 V (by omega) hi (by omega) hF hA (fun V1 hF1 hA1 => ?_)
  rw [Nat.zero_add]
  generalize hk : nrun tc 7 i 401 = k at *
  rcases (show k % 2 = 0 ∨ k % 2 = 1 by omega) with z | z
  · rw [z] at hP ⊢
    refine x_aload_n rfl rfl ?_
    refine x_iload_n rfl rfl ?_
    refine x_callV (M' := mi226) (As := [_]) (bc1 := 0) (bs1 := 0) (bc2 := 0) (bs2 := 0) rfl rfl rfl rfl ok226 rfl rfl (by decide) rfl rfl rfl rfl rfl rfl ?_
    refine h10 dp (i + k) p x l b V1 (d + 5) hd (by omega) k1 hl hF1 hA1 g1 _ (fun v V2 b2 hF2 hA2 hR2 => ?_)
    skip
    rcases (show v = 0 ∨ v = 1 by have := hR2.1; omega) with rfl | rfl
    · refine x_iload_n rfl rfl ?_
      refine x_icmpN_eq rfl (fun c30 => ?_) (fun c30 => ?_)
      rotate_left
      · exact absurd c30 (by first | decide | omega)
      refine x_iconstN (q := 0) rfl ?_
      refine x_zret rfl rfl (by first | exact Or.inl rfl | exact Or.inr rfl) ?_
      exact hP 0 V2 b2 hF2 hA2 hR2
    · refine x_iload_n rfl rfl ?_
      refine x_icmpN_eq rfl (fun c30 => ?_) (fun c30 => ?_)
      · exact absurd c30 (by first | decide | omega)
      refine x_iconstN (q := 1) rfl ?_
      refine x_goto rfl ?_
      refine x_zret rfl rfl (by first | exact Or.inl rfl | exact Or.inr rfl) ?_
      exact hP 1 V2 b2 hF2 hA2 hR2
  · rw [z] at hP ⊢
    refine x_aload_n rfl rfl ?_
    refine x_iload_n rfl rfl ?_
    refine x_callV (M' := mi226) (As := [_]) (bc1 := 0) (bs1 := 0) (bc2 := 0) (bs2 := 0) rfl rfl rfl rfl ok226 rfl rfl (by decide) rfl rfl rfl rfl rfl rfl ?_
    refine h10 dp (i + k) p x l b V1 (d + 5) hd (by omega) k1 hl hF1 hA1 g1 _ (fun v V2 b2 hF2 hA2 hR2 => ?_)
    skip
    rcases (show v = 0 ∨ v = 1 by have := hR2.1; omega) with rfl | rfl
    · refine x_iload_n rfl rfl ?_
      refine x_icmpN_eq rfl (fun c30 => ?_) (fun c30 => ?_)
      · exact absurd c30 (by first | decide | omega)
      refine x_iconstN (q := 1) rfl ?_
      refine x_goto rfl ?_
      refine x_zret rfl rfl (by first | exact Or.inl rfl | exact Or.inr rfl) ?_
      exact hP 1 V2 b2 hF2 hA2 (rel_not hR2)
    · refine x_iload_n rfl rfl ?_
      refine x_icmpN_eq rfl (fun c30 => ?_) (fun c30 => ?_)
      rotate_left
      · exact absurd c30 (by first | decide | omega)
      refine x_iconstN (q := 0) rfl ?_
      refine x_zret rfl rfl (by first | exact Or.inl rfl | exact Or.inr rfl) ?_
      exact hP 0 V2 b2 hF2 hA2 (rel_not hR2)
set_option maxRecDepth 20000 in
theorem p_tail {v w : Int64} {l b s u : Nat} {V : VIT} (hs : s = 160 ∨ s = 162 ∨ s = 161) (hl : l ≤ 1) (hb : V 74 24 = nI b) (hb1 : b ≤ 1) (hu : (l = 0 ∨ b = 1 → u = 0) ∧ (l = 1 → b = 0 → jn (s - 100) v.toInt w.toInt = some (u : Int))) (hP : P (some (.int (nI u))) (LY ++ ext) V VL (vr G)) : Ex (d + 1) mi226 63 [.ref 74, .int (nI l), .long v, .retAddr 8, .int (nI s), .long w, .retAddr 8] [] (LY ++ ext) V VL (vr G) 0 0 P := by
  rcases (show l = 0 ∨ l = 1 by omega) with rfl | rfl
  · rw [hu.1 (Or.inl rfl)] at hP
    refine x_iload_n rfl rfl ?_
    refine x_ifN_eq rfl (fun c64 => ?_) (fun c64 => ?_)
    rotate_left
    · exact absurd c64 (by first | decide | omega)
    refine x_iconstN (q := 0) rfl ?_
    refine x_zret rfl rfl (by first | exact Or.inl rfl | exact Or.inr rfl) ?_
    exact hP
  · rcases (show b = 0 ∨ b = 1 by omega) with rfl | rfl
    · have hj := hu.2 rfl rfl
      rcases hs with rfl | rfl | rfl
      · have hj2 : some (if v.toInt < w.toInt then (1 : Int) else 0) = some (u : Int) := hj
        by_cases c : v.toInt < w.toInt
        · rw [if_pos c] at hj2
          have eu : u = 1 := by injection hj2; omega
          subst eu
          refine x_iload_n rfl rfl ?_
          refine x_ifN_eq rfl (fun c64 => ?_) (fun c64 => ?_)
          · exact absurd c64 (by first | decide | omega)
          refine x_aload_n rfl rfl ?_
          refine x_getE (y := 24) rfl rfl rfl (hb) ?_
          refine x_ifN_ne rfl (fun c71 => ?_) (fun c71 => ?_)
          · exact absurd c71 (by first | decide | omega)
          refine x_iload rfl rfl ?_
          refine x_bipushN (q := 60) rfl ?_
          refine x_callS (M' := mi199) (As := [_]) (bc1 := 0) (bs1 := 0) (bc2 := 0) (bs2 := 0) rfl rfl rfl rfl ok199 rfl rfl rfl rfl rfl rfl ?_
          refine m_sign (by omega) ?_
          refine x_icmpN_ne rfl (fun c81 => ?_) (fun c81 => ?_)
          · exact absurd c81 (by first | decide | omega)
          refine x_lload_n rfl rfl ?_
          refine x_lload rfl rfl ?_
          refine x_lcmp rfl ?_
          refine x_if_ge rfl (fun c88 => ?_) (fun c88 => ?_)
          · exact absurd (lgG.mp c88) (by omega)
          refine x_goto rfl ?_
          refine x_iconstN (q := 1) rfl ?_
          refine x_goto rfl ?_
          refine x_zret rfl rfl (by first | exact Or.inl rfl | exact Or.inr rfl) ?_
          exact hP
        · rw [if_neg c] at hj2
          have eu : u = 0 := by injection hj2; omega
          subst eu
          refine x_iload_n rfl rfl ?_
          refine x_ifN_eq rfl (fun c64 => ?_) (fun c64 => ?_)
          · exact absurd c64 (by first | decide | omega)
          refine x_aload_n rfl rfl ?_
          refine x_getE (y := 24) rfl rfl rfl (hb) ?_
          refine x_ifN_ne rfl (fun c71 => ?_) (fun c71 => ?_)
          · exact absurd c71 (by first | decide | omega)
          refine x_iload rfl rfl ?_
          refine x_bipushN (q := 60) rfl ?_
          refine x_callS (M' := mi199) (As := [_]) (bc1 := 0) (bs1 := 0) (bc2 := 0) (bs2 := 0) rfl rfl rfl rfl ok199 rfl rfl rfl rfl rfl rfl ?_
          refine m_sign (by omega) ?_
          refine x_icmpN_ne rfl (fun c81 => ?_) (fun c81 => ?_)
          · exact absurd c81 (by first | decide | omega)
          refine x_lload_n rfl rfl ?_
          refine x_lload rfl rfl ?_
          refine x_lcmp rfl ?_
          refine x_if_ge rfl (fun c88 => ?_) (fun c88 => ?_)
          rotate_left
          · exact absurd (lgG.mpr (by omega)) c88
          refine x_iconstN (q := 0) rfl ?_
          refine x_zret rfl rfl (by first | exact Or.inl rfl | exact Or.inr rfl) ?_
          exact hP
      · have hj2 : some (if w.toInt < v.toInt then (1 : Int) else 0) = some (u : Int) := hj
        by_cases c : w.toInt < v.toInt
        · rw [if_pos c] at hj2
          have eu : u = 1 := by injection hj2; omega
          subst eu
          refine x_iload_n rfl rfl ?_
          refine x_ifN_eq rfl (fun c64 => ?_) (fun c64 => ?_)
          · exact absurd c64 (by first | decide | omega)
          refine x_aload_n rfl rfl ?_
          refine x_getE (y := 24) rfl rfl rfl (hb) ?_
          refine x_ifN_ne rfl (fun c71 => ?_) (fun c71 => ?_)
          · exact absurd c71 (by first | decide | omega)
          refine x_iload rfl rfl ?_
          refine x_bipushN (q := 60) rfl ?_
          refine x_callS (M' := mi199) (As := [_]) (bc1 := 0) (bs1 := 0) (bc2 := 0) (bs2 := 0) rfl rfl rfl rfl ok199 rfl rfl rfl rfl rfl rfl ?_
          refine m_sign (by omega) ?_
          refine x_icmpN_ne rfl (fun c81 => ?_) (fun c81 => ?_)
          rotate_left
          · exact absurd c81 (by first | decide | omega)
          refine x_iload rfl rfl ?_
          refine x_bipushN (q := 62) rfl ?_
          refine x_callS (M' := mi199) (As := [_]) (bc1 := 0) (bs1 := 0) (bc2 := 0) (bs2 := 0) rfl rfl rfl rfl ok199 rfl rfl rfl rfl rfl rfl ?_
          refine m_sign (by omega) ?_
          refine x_icmpN_ne rfl (fun c101 => ?_) (fun c101 => ?_)
          · exact absurd c101 (by first | decide | omega)
          refine x_lload_n rfl rfl ?_
          refine x_lload rfl rfl ?_
          refine x_lcmp rfl ?_
          refine x_if_le rfl (fun c108 => ?_) (fun c108 => ?_)
          · exact absurd (lgL.mp c108) (by omega)
          refine x_goto rfl ?_
          refine x_iconstN (q := 1) rfl ?_
          refine x_goto rfl ?_
          refine x_zret rfl rfl (by first | exact Or.inl rfl | exact Or.inr rfl) ?_
          exact hP
        · rw [if_neg c] at hj2
          have eu : u = 0 := by injection hj2; omega
          subst eu
          refine x_iload_n rfl rfl ?_
          refine x_ifN_eq rfl (fun c64 => ?_) (fun c64 => ?_)
          · exact absurd c64 (by first | decide | omega)
          refine x_aload_n rfl rfl ?_
          refine x_getE (y := 24) rfl rfl rfl (hb) ?_
          refine x_ifN_ne rfl (fun c71 => ?_) (fun c71 => ?_)
          · exact absurd c71 (by first | decide | omega)
          refine x_iload rfl rfl ?_
          refine x_bipushN (q := 60) rfl ?_
          refine x_callS (M' := mi199) (As := [_]) (bc1 := 0) (bs1 := 0) (bc2 := 0) (bs2 := 0) rfl rfl rfl rfl ok199 rfl rfl rfl rfl rfl rfl ?_
          refine m_sign (by omega) ?_
          refine x_icmpN_ne rfl (fun c81 => ?_) (fun c81 => ?_)
          rotate_left
          · exact absurd c81 (by first | decide | omega)
          refine x_iload rfl rfl ?_
          refine x_bipushN (q := 62) rfl ?_
          refine x_callS (M' := mi199) (As := [_]) (bc1 := 0) (bs1 := 0) (bc2 := 0) (bs2 := 0) rfl rfl rfl rfl ok199 rfl rfl rfl rfl rfl rfl ?_
          refine m_sign (by omega) ?_
          refine x_icmpN_ne rfl (fun c101 => ?_) (fun c101 => ?_)
          · exact absurd c101 (by first | decide | omega)
          refine x_lload_n rfl rfl ?_
          refine x_lload rfl rfl ?_
          refine x_lcmp rfl ?_
          refine x_if_le rfl (fun c108 => ?_) (fun c108 => ?_)
          rotate_left
          · exact absurd (lgL.mpr (by omega)) c108
          refine x_iconstN (q := 0) rfl ?_
          refine x_zret rfl rfl (by first | exact Or.inl rfl | exact Or.inr rfl) ?_
          exact hP
      · have hj2 : some (if v.toInt = w.toInt then (1 : Int) else 0) = some (u : Int) := hj
        by_cases c : v.toInt = w.toInt
        · rw [if_pos c] at hj2
          have eu : u = 1 := by injection hj2; omega
          subst eu
          refine x_iload_n rfl rfl ?_
          refine x_ifN_eq rfl (fun c64 => ?_) (fun c64 => ?_)
          · exact absurd c64 (by first | decide | omega)
          refine x_aload_n rfl rfl ?_
          refine x_getE (y := 24) rfl rfl rfl (hb) ?_
          refine x_ifN_ne rfl (fun c71 => ?_) (fun c71 => ?_)
          · exact absurd c71 (by first | decide | omega)
          refine x_iload rfl rfl ?_
          refine x_bipushN (q := 60) rfl ?_
          refine x_callS (M' := mi199) (As := [_]) (bc1 := 0) (bs1 := 0) (bc2 := 0) (bs2 := 0) rfl rfl rfl rfl ok199 rfl rfl rfl rfl rfl rfl ?_
          refine m_sign (by omega) ?_
          refine x_icmpN_ne rfl (fun c81 => ?_) (fun c81 => ?_)
          rotate_left
          · exact absurd c81 (by first | decide | omega)
          refine x_iload rfl rfl ?_
          refine x_bipushN (q := 62) rfl ?_
          refine x_callS (M' := mi199) (As := [_]) (bc1 := 0) (bs1 := 0) (bc2 := 0) (bs2 := 0) rfl rfl rfl rfl ok199 rfl rfl rfl rfl rfl rfl ?_
          refine m_sign (by omega) ?_
          refine x_icmpN_ne rfl (fun c101 => ?_) (fun c101 => ?_)
          rotate_left
          · exact absurd c101 (by first | decide | omega)
          refine x_lload_n rfl rfl ?_
          refine x_lload rfl rfl ?_
          refine x_lcmp rfl ?_
          refine x_if_ne rfl (fun c118 => ?_) (fun c118 => ?_)
          · exact absurd (lgE.mpr c) c118
          refine x_iconstN (q := 1) rfl ?_
          refine x_goto rfl ?_
          refine x_zret rfl rfl (by first | exact Or.inl rfl | exact Or.inr rfl) ?_
          exact hP
        · rw [if_neg c] at hj2
          have eu : u = 0 := by injection hj2; omega
          subst eu
          refine x_iload_n rfl rfl ?_
          refine x_ifN_eq rfl (fun c64 => ?_) (fun c64 => ?_)
          · exact absurd c64 (by first | decide | omega)
          refine x_aload_n rfl rfl ?_
          refine x_getE (y := 24) rfl rfl rfl (hb) ?_
          refine x_ifN_ne rfl (fun c71 => ?_) (fun c71 => ?_)
          · exact absurd c71 (by first | decide | omega)
          refine x_iload rfl rfl ?_
          refine x_bipushN (q := 60) rfl ?_
          refine x_callS (M' := mi199) (As := [_]) (bc1 := 0) (bs1 := 0) (bc2 := 0) (bs2 := 0) rfl rfl rfl rfl ok199 rfl rfl rfl rfl rfl rfl ?_
          refine m_sign (by omega) ?_
          refine x_icmpN_ne rfl (fun c81 => ?_) (fun c81 => ?_)
          rotate_left
          · exact absurd c81 (by first | decide | omega)
          refine x_iload rfl rfl ?_
          refine x_bipushN (q := 62) rfl ?_
          refine x_callS (M' := mi199) (As := [_]) (bc1 := 0) (bs1 := 0) (bc2 := 0) (bs2 := 0) rfl rfl rfl rfl ok199 rfl rfl rfl rfl rfl rfl ?_
          refine m_sign (by omega) ?_
          refine x_icmpN_ne rfl (fun c101 => ?_) (fun c101 => ?_)
          rotate_left
          · exact absurd c101 (by first | decide | omega)
          refine x_lload_n rfl rfl ?_
          refine x_lload rfl rfl ?_
          refine x_lcmp rfl ?_
          refine x_if_ne rfl (fun c118 => ?_) (fun c118 => ?_)
          rotate_left
          · exact absurd (lgE.mp c118) c
          refine x_iconstN (q := 0) rfl ?_
          refine x_zret rfl rfl (by first | exact Or.inl rfl | exact Or.inr rfl) ?_
          exact hP
    · rw [hu.1 (Or.inr rfl)] at hP
      refine x_iload_n rfl rfl ?_
      refine x_ifN_eq rfl (fun c64 => ?_) (fun c64 => ?_)
      · exact absurd c64 (by first | decide | omega)
      refine x_aload_n rfl rfl ?_
      refine x_getE (y := 24) rfl rfl rfl (hb) ?_
      refine x_ifN_ne rfl (fun c71 => ?_) (fun c71 => ?_)
      rotate_left
      · exact absurd c71 (by first | decide | omega)
      refine x_iconstN (q := 0) rfl ?_
      refine x_zret rfl rfl (by first | exact Or.inl rfl | exact Or.inr rfl) ?_
      exact hP
def cmpU (l b : Nat) (o : Option Int) : Nat := if l = 0 ∨ b = 1 then 0 else if o = some 1 then 1 else 0
set_option maxRecDepth 20000 in
theorem cmp_u {l b s : Nat} {v w : Int} (hs : s = 160 ∨ s = 162 ∨ s = 161) (hl : l ≤ 1) (hb1 : b ≤ 1) : cmpU l b (jn (s - 100) v w) ≤ 1 ∧ (l = 0 ∨ b = 1 → cmpU l b (jn (s - 100) v w) = 0) ∧ (l = 1 → b = 0 → jn (s - 100) v w = some ((cmpU l b (jn (s - 100) v w) : Nat) : Int)) := by
  have h01 : ∃ t : Nat, t ≤ 1 ∧ jn (s - 100) v w = some (t : Int) := by
    rcases hs with rfl | rfl | rfl
    · by_cases c : v < w
      · exact ⟨1, by omega, by show some (if v < w then (1 : Int) else 0) = _; rw [if_pos c]; rfl⟩
      · exact ⟨0, by omega, by show some (if v < w then (1 : Int) else 0) = _; rw [if_neg c]; rfl⟩
    · by_cases c : w < v
      · exact ⟨1, by omega, by show some (if w < v then (1 : Int) else 0) = _; rw [if_pos c]; rfl⟩
      · exact ⟨0, by omega, by show some (if w < v then (1 : Int) else 0) = _; rw [if_neg c]; rfl⟩
    · by_cases c : v = w
      · exact ⟨1, by omega, by show some (if v = w then (1 : Int) else 0) = _; rw [if_pos c]; rfl⟩
      · exact ⟨0, by omega, by show some (if v = w then (1 : Int) else 0) = _; rw [if_neg c]; rfl⟩
  obtain ⟨t, t1, t2⟩ := h01
  rw [t2]
  unfold cmpU
  by_cases c : l = 0 ∨ b = 1
  · rw [if_pos c]; exact ⟨by omega, fun _ => rfl, fun _ _ => by omega⟩
  · rw [if_neg c]
    rcases (show t = 0 ∨ t = 1 by omega) with rfl | rfl
    · exact ⟨by decide, fun z => absurd z c, fun _ _ => rfl⟩
    · exact ⟨by decide, fun z => absurd z c, fun _ _ => rfl⟩
set_option maxRecDepth 20000 in
theorem ts10 (hE : EvS K B n tc V0) (h5 : ∀ g, Sm5 V0 VL G ext B n e o tc tv g) (h0 : Ts0 V0 VL G ext B n e o tc tv f) : Ts10 V0 VL G ext B n e o tc tv (f + 1) := by
  intro dp i p x l b V D hd hD hi hl hF hA hr
  have hE1 := hE.fr hF
  have hn4 := hE.2.2.2.1
  have hB4 := hE.2.2.1
  obtain ⟨d, rfl⟩ : ∃ d, D = d + 5 := ⟨D - 5, by omega⟩
  have e9 : prs o tc tv (f + 1) 10 dp i p x = (if tc i = 140 then (if 8 ≤ dp then (0, i, p, x) else pbd (prs o tc tv f 0 (dp + 1) (i + 1) p x) (fun i' p' y => if tc i' = 141 then (1, i' + 1, p', y) else (0, i', p', y)))
      else pbd (prs o tc tv f 5 dp i p x) (fun i' p' y => if tc i' = 160 ∨ tc i' = 162 ∨ tc i' = 161 then pbd (prs o tc tv f 5 dp (i' + 1) p' x) (fun i2 p2 z => (1, i2, p2, dBin (tc i' - 100) y z)) else (0, i', p', y))) := rfl
  rw [e9] at hr ⊢
  by_cases c : tc i = 140
  · rw [if_pos c] at hr ⊢
    by_cases hd8 : 8 ≤ dp
    · rw [if_pos hd8] at hr; exact absurd hr (by show ¬ 0 = 1; omega)
    · rw [if_neg hd8] at hr ⊢
      obtain ⟨g1, g2⟩ := pbd_1 hr
      rw [g2] at hr ⊢
      by_cases c2 : tc (prs o tc tv f 0 (dp + 1) (i + 1) p x).2.1 = 141
      · rw [if_pos c2] at hr ⊢
        intro P hP
        have hin : i < n := Nat.lt_of_not_le (fun z => by have := hE.2.2.2.2.2.1 i z; omega)
        obtain ⟨o1, o2, o3⟩ := prs_ok (o := o) (tv := tv) hE.2.2.2.2.2.1 f 0 (dp + 1) (i + 1) p x hin g1
        refine x_aload_n rfl rfl ?_
        refine x_bipushN (q := 40) rfl ?_
        refine x_callS (M' := mi199) (As := [_]) (bc1 := 0) (bs1 := 0) (bc2 := 0) (bs2 := 0) rfl rfl rfl rfl ok199 rfl rfl rfl rfl rfl rfl ?_
        refine m_sign (by omega) ?_
        refine x_callV (M' := mi217) (As := [_]) (bc1 := 0) (bs1 := 0) (bc2 := 0) (bs2 := 0) rfl rfl rfl rfl ok217 rfl rfl (by decide) rfl rfl rfl rfl rfl rfl ?_
        refine m_passes_yes hE1 hA.1 (by omega) c (fun _ => ?_)
        refine x_ifN_eq rfl (fun c9 => ?_) (fun c9 => ?_)
        · exact absurd c9 (by first | decide | omega)
        refine x_aload_n rfl rfl ?_
        refine x_iload_n rfl rfl ?_
        refine x_callV (M' := mi223) (As := [_]) (bc1 := 0) (bs1 := 0) (bc2 := 0) (bs2 := 0) rfl rfl rfl rfl ok223 rfl rfl (by decide) rfl rfl rfl rfl rfl rfl ?_
        refine h0 (dp + 1) (i + 1) p x l b _ (d + 4) (by omega) (by omega) hin hl hF.go ⟨up_at, (up_at' (by omega)).trans hA.2.1, hA.2.2⟩ g1 _ (fun v V2 b2 hF2 hA2 hR2 => ?_)
        refine x_istore_n (ls' := [_, _, _, _, _, _, _]) rfl rfl rfl ?_
        refine x_aload_n rfl rfl ?_
        refine x_dup rfl rfl ?_
        refine x_getE (y := 22) rfl rfl rfl (hA2.1) ?_
        refine x_iconstN (q := 1) rfl ?_
        refine x_iaddN rfl ?_
        refine x_putI rfl rfl rfl rfl ?_
        refine x_iload_n rfl rfl ?_
        refine x_zret rfl rfl (nI01 hR2.1) ?_
        exact hP v _ b2 hF2.go ⟨up_at, (up_at' (by omega)).trans hA2.2.1, hA2.2.2⟩ hR2
      · rw [if_neg c2] at hr; exact absurd hr (by show ¬ 0 = 1; omega)
  · rw [if_neg c] at hr ⊢
    obtain ⟨g1, g2⟩ := pbd_1 hr
    rw [g2] at hr ⊢
    obtain ⟨o1, o2, o3⟩ := prs_ok (o := o) (tv := tv) hE.2.2.2.2.2.1 f 5 dp i p x hi g1
    generalize hrr : prs o tc tv f 5 dp i p x = r1 at *
    by_cases c2 : tc r1.2.1 = 160 ∨ tc r1.2.1 = 162 ∨ tc r1.2.1 = 161
    · rw [if_pos c2] at hr ⊢
      obtain ⟨g3, g4⟩ := pbd_1 hr
      rw [g4]
      have hin : r1.2.1 < n := Nat.lt_of_not_le (fun z => by have := hE.2.2.2.2.2.1 _ z; omega)
      intro P hP
      have hs1 := h5 f dp i p x l b V (d + 4) hd (by omega) hi hl hF hA (by rw [hrr]; exact g1)
      rw [hrr] at hs1
      refine x_aload_n rfl rfl ?_
      refine x_bipushN (q := 40) rfl ?_
      refine x_callS (M' := mi199) (As := [_]) (bc1 := 0) (bs1 := 0) (bc2 := 0) (bs2 := 0) rfl rfl rfl rfl ok199 rfl rfl rfl rfl rfl rfl ?_
      refine m_sign (by omega) ?_
      refine x_callV (M' := mi217) (As := [_]) (bc1 := 0) (bs1 := 0) (bc2 := 0) (bs2 := 0) rfl rfl rfl rfl ok217 rfl rfl (by decide) rfl rfl rfl rfl rfl rfl ?_
      refine m_passes_no hE1 hA.1 (by omega) (by omega) c ?_
      refine x_ifN_eq rfl (fun c9 => ?_) (fun c9 => ?_)
      rotate_left
      · exact absurd c9 (by first | decide | omega)
      refine x_aload_n rfl rfl ?_
      refine x_iload_n rfl rfl ?_
      refine x_callV (M' := mi219) (As := [_]) (bc1 := 0) (bs1 := 0) (bc2 := 0) (bs2 := 0) rfl rfl rfl rfl ok219 rfl rfl (by decide) rfl rfl rfl rfl rfl rfl ?_
      refine hs1 _ (fun v V1 b1_ hF1 hA1 hR1 => ?_)
      refine x_lstore_n (ls' := [_, _, _, _, _, _, _]) rfl rfl rfl ?_
      refine x_aload_n rfl rfl ?_
      refine x_aload_n rfl rfl ?_
      refine x_getE (y := 22) rfl rfl rfl (hA1.1) ?_
      refine x_callV (M' := mi216) (As := [_]) (bc1 := 0) (bs1 := 0) (bc2 := 0) (bs2 := 0) rfl rfl rfl rfl ok216 rfl rfl (by decide) rfl rfl rfl rfl rfl rfl ?_
      refine m_codeAt (hE.fr hF1) (by omega) ?_
      refine x_istore (ls' := [_, _, _, _, _, _, _]) rfl rfl rfl ?_
      refine x_aload_n rfl rfl ?_
      refine x_dup rfl rfl ?_
      refine x_getE (y := 22) rfl rfl rfl (hA1.1) ?_
      refine x_iconstN (q := 1) rfl ?_
      refine x_iaddN rfl ?_
      refine x_putI rfl rfl rfl rfl ?_
      refine x_aload_n rfl rfl ?_
      refine x_iload_n rfl rfl ?_
      refine x_callV (M' := mi219) (As := [_]) (bc1 := 0) (bs1 := 0) (bc2 := 0) (bs2 := 0) rfl rfl rfl rfl ok219 rfl rfl (by decide) rfl rfl rfl rfl rfl rfl ?_
      refine h5 f dp (r1.2.1 + 1) r1.2.2.1 x l b1_ _ (d + 4) hd (by omega) hin hl hF1.go ⟨up_at, (up_at' (by omega)).trans hA1.2.1, hA1.2.2⟩ g3 _ (fun w V2 b2 hF2 hA2 hR2 => ?_)
      refine x_lstore (ls' := [_, _, _, _, _, _, _]) rfl rfl rfl ?_
      skip
      have hu := cmp_u (v := v.toInt) (w := w.toInt) c2 hl hA2.2.2
      exact p_tail (d := d + 4) c2 hl hA2.2.1 hA2.2.2 hu.2 (hP _ V2 b2 hF2 hA2 (rel_cmp (op := tc r1.2.1 - 100) hR1 hR2 hu.1 hu.2.2))
    · rw [if_neg c2] at hr; exact absurd hr (by show ¬ 0 = 1; omega)
set_option maxRecDepth 20000 in
theorem ts_all (hE : EvS K B n tc V0) (h5 : ∀ g, Sm5 V0 VL G ext B n e o tc tv g) : ∀ f, Ts0 V0 VL G ext B n e o tc tv f ∧ Ts1 V0 VL G ext B n e o tc tv f ∧ Ts2 V0 VL G ext B n e o tc tv f ∧ Ts3 V0 VL G ext B n e o tc tv f ∧ Ts4 V0 VL G ext B n e o tc tv f ∧ Ts10 V0 VL G ext B n e o tc tv f
  | 0 => ⟨fun _ _ _ _ _ _ _ _ _ _ _ _ _ _ hr => absurd hr (by show ¬ 2 = 1; omega), fun _ _ _ _ _ _ _ _ _ _ _ _ _ _ _ _ _ _ hr => absurd hr (by show ¬ 2 = 1; omega), fun _ _ _ _ _ _ _ _ _ _ _ _ _ _ hr => absurd hr (by show ¬ 2 = 1; omega), fun _ _ _ _ _ _ _ _ _ _ _ _ _ _ _ _ _ _ hr => absurd hr (by show ¬ 2 = 1; omega), fun _ _ _ _ _ _ _ _ _ _ _ _ _ _ hr => absurd hr (by show ¬ 2 = 1; omega), fun _ _ _ _ _ _ _ _ _ _ _ _ _ _ hr => absurd hr (by show ¬ 2 = 1; omega)⟩
  | f + 1 => by
    obtain ⟨t0, t1, t2, t3, t4, t10⟩ := ts_all hE h5 f
    exact ⟨ts0 hE t2 t1, ts1 hE t2 t1, ts2 hE t4 t3, ts3 hE t4 t3, ts4 hE t10, ts10 hE h5 t0⟩
end Ev3
