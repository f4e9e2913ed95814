/-! ===== the class runs a clause of orders once ===== -/
def XO (s : OS) (V : VIT) : Prop := RW 3 s.1 V ∧ V 45 2 = nI s.2.1 ∧ (∀ i, i < s.2.1 → V 46 i = nI (s.2.2.2.1 i)) ∧ V 59 4 = nI s.2.2.2.2.1 ∧ V 59 5 = Int32.ofInt s.2.2.2.2.2
def FrOX (V0 V : VIT) : Prop := ∀ a k, ¬ (3 ≤ a ∧ a ≤ 12) → a ≠ 2 → a ≠ 44 → ¬ (a = 43 ∧ (k = 3 ∨ k = 4 ∨ k = 5)) → ¬ (a = 45 ∧ k = 2) → a ≠ 46 → ¬ (a = 59 ∧ (k = 4 ∨ k = 5 ∨ k = 6)) → a ≠ 60 → V a k = V0 a k
set_option maxRecDepth 20000 in
theorem FrOX.refl {V : VIT} : FrOX V V := fun _ _ _ _ _ _ _ _ _ _ => rfl
set_option maxRecDepth 20000 in
theorem FrOX.trans {V0 V1 V2 : VIT} (h1 : FrOX V0 V1) (h2 : FrOX V1 V2) : FrOX V0 V2 := fun a k q1 q2 q3 q4 q5 q6 q7 q8 => (h2 a k q1 q2 q3 q4 q5 q6 q7 q8).trans (h1 a k q1 q2 q3 q4 q5 q6 q7 q8)
/-- a clause as orders have it -/
def okC (c : Cla) : Prop := c.1 ≤ 3 ∧ c.2.1 ≤ 20 ∧ (c.1 = 3 → c.2.2.1 = dz)
/-- the text of orders in the class -/
def TxO (l : Nat) (cl : List Cla) (V : VIT) : Prop := V 38 2 = nI cl.length ∧ cl.length ≤ 12 ∧ l ≤ 896 ∧ CodR V 0 l ∧ ∀ j c, cl[j]? = some c → ClaV 36 owm V l j c ∧ okC c
set_option maxRecDepth 20000 in
theorem TxO.same {l : Nat} {cl : List Cla} {V V' : VIT} (h : TxO l cl V) (h38 : V' 38 2 = V 38 2) (h39 : V' 39 = V 39) (h40 : V' 40 = V 40) : TxO l cl V' := by
  obtain ⟨h1, h2, h3, h4, h5⟩ := h
  refine ⟨by rw [h38]; exact h1, h2, h3, h4.same (fun k _ _ => by rw [h40]), fun j c hj => ⟨(h5 j c hj).1.same (Nat.le_refl _) (fun k _ => by rw [h40]) (fun k _ => by rw [h39]), (h5 j c hj).2⟩⟩
set_option maxRecDepth 20000 in
theorem TxO.fr {l : Nat} {cl : List Cla} {V V' : VIT} (h : TxO l cl V) (hF : FrOX V V') : TxO l cl V' := h.same (hF 38 2 (by omega) (by omega) (by omega) (by omega) (by omega) (by omega) (by omega) (by omega)) (funext (fun k => hF 39 k (by omega) (by omega) (by omega) (by omega) (by omega) (by omega) (by omega) (by omega))) (funext (fun k => hF 40 k (by omega) (by omega) (by omega) (by omega) (by omega) (by omega) (by omega) (by omega)))
set_option maxRecDepth 20000 in
theorem TelV.bd {V : VIT} {l s : Nat} {x : Den} {en : Env} (h : TelV 36 owm V l s x) (hl : l ≤ 896) (hC : CodR V 0 l) (he : ∀ k, k < 36 → -1000000000 ≤ en (owm k) ∧ en (owm k) ≤ 1000000000) {a : Int} (ha : x en = some a) : -1000002000 ≤ a ∧ a ≤ 1000002000 := by
  obtain ⟨l1, h1, h2, h3⟩ := h
  have ht := h1.tells (cd := fun k => if k < l then cdv V k else 0) (L := 896) (by omega) (by omega) (by omega) (fun k _ q => if_pos (by omega)) (by rw [if_pos (by omega)]; exact cdv_eq h2 (by omega)) rfl
  have e1 : vm 36 (fun k => if k < l then cdv V k else 0) 896 (fun k => en (owm k)) 1000 s [] = x en := ht en
  have hb := vm_bd (nw := 36) (L := 896) (cd := fun k => if k < l then cdv V k else 0) (e := fun k => en (owm k)) (fun k hk => by
    show (if k < l then cdv V k else 0) < 1000000
    split
    · rename_i q; exact (hC k (by omega) q).2
    · omega) he 1000 s 0 [] a (fun x hx => by cases hx) (e1.trans ha)
  omega
set_option maxRecDepth 20000 in
theorem XO.same {s : OS} {V V' : VIT} (h : XO s V) (hF : ∀ a k, (3 ≤ a ∧ a ≤ 12) ∨ a = 45 ∨ a = 46 ∨ a = 59 → V' a k = V a k) : XO s V' := by
  obtain ⟨h1, h2, h3, h4, h5⟩ := h
  exact ⟨h1.same (fun a q1 q2 => funext (fun k => hF a k (by omega))), by rw [hF 45 2 (by omega)]; exact h2, fun i hi => by rw [hF 46 i (by omega)]; exact h3 i hi, by rw [hF 59 4 (by omega)]; exact h4, by rw [hF 59 5 (by omega)]; exact h5⟩
set_option maxRecDepth 20000 in
theorem XO.nxt {kd g r : Nat} {s : OS} {K' : KT} {V V' V2 : VIT} (h : XO s V) (h16 : s.2.1 ≤ 16) (k1 : KXo V V' (sO s.2.1) (vO s.2.1) g) (k2 : RW 3 K' V') (hF : ∀ a k, a ≠ 59 → V2 a k = V' a k) (e4 : V2 59 4 = nI (s.2.2.2.2.1 + 1)) (e5 : V2 59 5 = Int32.ofInt (if kd = 0 then (r : Int) else s.2.2.2.2.2)) : XO (nxtO kd s (K', g, r)) V2 := by
  obtain ⟨K, u, US, lg, ran, lat⟩ := s
  obtain ⟨h1, h2, h3, h4, h5⟩ := h
  obtain ⟨x1, x2, x3, x4⟩ := k1
  have hn := nxtSV h16
  have hus : vO u + sO u = u := by
    unfold Nxt at hn
    dsimp only at hn
    omega
  refine ⟨k2.same (fun a q1 q2 => funext (fun k => hF a k (by omega))), ?_, fun i hi => ?_, e4, e5⟩
  · rw [hF 45 2 (by omega)]; exact x1
  · change i < vO u + 1 at hi
    rw [hF 46 i (by omega)]
    show V' 46 i = nI (lg1 lg (sO u) (vO u) g i)
    unfold lg1
    by_cases c : i = vO u
    · rw [if_pos c, c]; exact x3
    · rw [if_neg c]
      have e := x2 i (by show i < vO u; omega)
      dsimp only at e
      rw [e]
      exact h3 (i + sO u) (by show i + sO u < u; omega)
section CCould
variable {d : Nat} {V V0 : VIT} {VL : VLT} {G : VRT} {P : Post} {ext : HL} {l i : Nat} {cl : List Cla} {c : Cla} {s : OS} {en : Env}
set_option maxRecDepth 20000 in
theorem x_sumHd {k : Nat} {o : Option Int} (hT : TxO l cl V) (hi : i < cl.length) (hk : k < 6) (hwd : ∀ k, k < 36 → V 60 k = Int32.ofInt (en (owm k)) ∧ -1000000000 ≤ en (owm k) ∧ en (owm k) ≤ 1000000000) (ho : (V 39 (6 * i + k) = -1 ∧ o = some 0) ∨ ∃ st x, V 39 (6 * i + k) = nI st ∧ TelV 36 owm V l st x ∧ o = x en) (hP : ∀ V' : VIT, FrS V V' → P (some (.int (obr o))) (LY ++ ext) V' VL (vr G)) : Ex (d + 20) mi22 0 (entL [.ref 59, .ref 38, .int (nI i), .int (nI k)] 5) [] (LY ++ ext) V VL (vr G) 0 0 P := by
  obtain ⟨h1, h2, h3, h4, h5⟩ := hT
  rcases ho with ⟨q1, q2⟩ | ⟨st, x, q1, q2, q3⟩
  · have hk2 := hP V (fun _ _ _ => rfl)
    rw [q2] at hk2
    have hk3 : P (some (.int 0)) (LY ++ ext) V VL (vr G) := hk2
    refine x_aload_n rfl rfl ?_
    refine x_iload_n rfl rfl ?_
    refine x_iload_n rfl rfl ?_
    refine x_callV (M' := mi84) (As := [_, _]) (bc1 := 0) (bs1 := 0) (bc2 := 0) (bs2 := 0) rfl rfl rfl rfl ok84 rfl rfl (by decide) rfl rfl rfl rfl rfl rfl ?_
    refine s_head (b := 38) (hd := 39) rfl rfl rfl h1 h2 hi hk ?_
    rw [q1]
    refine x_istore (ls' := [_, _, _, _, _]) rfl rfl rfl ?_
    refine x_iload rfl rfl ?_
    refine x_iconst rfl ?_
    refine x_icmp_ne rfl (fun c11 => ?_) (fun c11 => ?_)
    · exact absurd rfl c11
    refine x_iconst rfl ?_
    refine x_goto rfl ?_
    refine x_iret rfl rfl ?_
    exact hk3
  · obtain ⟨l1, g1, g2, g3⟩ := id q2
    have g4 := g1.1
    rw [q3] at hP
    refine x_aload_n rfl rfl ?_
    refine x_iload_n rfl rfl ?_
    refine x_iload_n rfl rfl ?_
    refine x_callV (M' := mi84) (As := [_, _]) (bc1 := 0) (bs1 := 0) (bc2 := 0) (bs2 := 0) rfl rfl rfl rfl ok84 rfl rfl (by decide) rfl rfl rfl rfl rfl rfl ?_
    refine s_head (b := 38) (hd := 39) rfl rfl rfl h1 h2 hi hk ?_
    rw [q1]
    refine x_istore (ls' := [_, _, _, _, _]) rfl rfl rfl ?_
    refine x_iload rfl rfl ?_
    refine x_iconst rfl ?_
    refine x_icmp_ne rfl (fun c11 => ?_) (fun c11 => ?_)
    rotate_left
    · exact absurd c11 (nI_m1 (by omega))
    refine x_aload_n rfl rfl ?_
    refine x_getR (u := .ref _) rfl rfl rfl rfl ?_
    refine x_aload_n rfl rfl ?_
    refine x_iload rfl rfl ?_
    refine x_aload_n rfl rfl ?_
    refine x_getR (u := .ref _) rfl rfl rfl rfl ?_
    refine x_callV (M' := mi77) (As := [_, _, _]) (bc1 := 0) (bs1 := 0) (bc2 := 0) (bs2 := 0) rfl rfl rfl rfl ok77 rfl rfl (by decide) rfl rfl rfl rfl rfl rfl ?_
    refine q2.value h3 h4 hwd (fun V' hF => ?_)
    refine x_iret rfl rfl ?_
    exact hP V' hF
set_option maxRecDepth 20000 in
theorem obr_ne {v : Int} (h1 : -1000002000 ≤ v) (h2 : v ≤ 1000002000) : ¬ obr (some v) = -2000000000 := fun z => by
  have z2 := congrArg Int32.toInt z
  rw [show obr (some v) = Int32.ofInt v from rfl, oI_toInt (by omega) (by omega), show (-2000000000 : Int32).toInt = -2000000000 from rfl] at z2
  omega
set_option maxRecDepth 20000 in
theorem x_couldRun {K0 : KT} (hs : okO s) (hran : s.2.2.2.2.1 ≤ 10000) (hX : XO s V) (hT : TxO l cl V) (hc : cl[i]? = some c) (hL : ∀ V' : VIT, (∀ a, 100 ≤ a → V' a = V a) → Laws s.1 13 (LY ++ ext) V' (vr G))
  (h1 : ∀ (s' : OS) (V' : VIT), oneO c s = some s' → XO s' V' → FrOX V V' → V' 59 6 = V 59 6 → P (some (.int (nI 1))) (LY ++ ext) V' VL (vr G))
  (h0 : oneO c s = none → ∀ V' : VIT, FrOX V V' → V' 59 6 = V 59 6 → P (some (.int (nI 0))) (LY ++ ext) V' VL (vr G)) : Ex (d + 30) mi21 0 (entL [.ref 59, .ref 38, .int (nI i)] 9) [] (LY ++ ext) V VL (vr G) 0 0 P := by
  have hi := (List.getElem?_eq_some_iff.mp hc).1
  obtain ⟨hx1, hx2, hx3, hx4, hx5⟩ := id hX
  obtain ⟨o1, o2, o3, o4, o5, o6⟩ := id hs
  have hbd := fun k hk => envO_bd (K := s.1) (ran := s.2.2.2.2.1) (lat := s.2.2.2.2.2) o1 (by omega) o5 o6 k hk
  have h12 := hT.2.1
  -- from the sums on
  have hmain : ∀ (V1 : VIT) (z3 : Int32), XO s V1 → TxO l cl V1 → FrOX V V1 → V1 59 6 = V 59 6 → (∀ k, k < 36 → V1 60 k = Int32.ofInt (eO s (owm k)) ∧ -1000000000 ≤ eO s (owm k) ∧ eO s (owm k) ≤ 1000000000) → ¬ offO c (eO s) → Ex (d + 30) mi21 37 [.ref 59, .ref 38, .int (nI i), .int z3, .retAddr 9, .retAddr 9, .retAddr 9, .retAddr 9, .retAddr 9] [] (LY ++ ext) V1 VL (vr G) 0 0 P := by
    intro V1 z3 hX1 hT1 hF1 h6 hwd hoff
    have hE := oneO_on hoff
    obtain ⟨⟨c1, c2, c3, c4, c5⟩, k1, k2, k3⟩ := hT1.2.2.2.2 i c hc
    have c4 := c4 rfl
    have hox : ∀ V2 : VIT, FrS V1 V2 → (V2 39 (6 * i + 2) = -1 ∧ xO c (eO s) = some 0) ∨ ∃ st x, V2 39 (6 * i + 2) = nI st ∧ TelV 36 owm V2 l st x ∧ xO c (eO s) = x (eO s) := by
      intro V2 hF2
      rw [hF2 39 _ (by omega)]
      rcases c3 with ⟨q, _⟩ | ⟨_, q1, q2⟩ | ⟨st, q1, q2⟩
      · exact absurd q (by decide)
      · exact Or.inl ⟨q2, if_pos q1⟩
      · refine Or.inr ⟨st, c.2.2.1, q1, q2.same (Nat.le_refl _) (fun k _ => hF2 40 k (by omega)), ?_⟩
        unfold xO
        by_cases e3 : c.1 = 3
        · rw [if_pos e3, k3 e3]; rfl
        · rw [if_neg e3]
    have hoy : ∀ V2 : VIT, FrS V1 V2 → ((V2 39 (6 * i + 3) = -1 ∧ yO c (eO s) = some 0) ∨ ∃ st x, V2 39 (6 * i + 3) = nI st ∧ TelV 36 owm V2 l st x ∧ yO c (eO s) = x (eO s)) ∧ ((V2 39 (6 * i + 4) = -1 ∧ zO c (eO s) = some 0) ∨ ∃ st x, V2 39 (6 * i + 4) = nI st ∧ TelV 36 owm V2 l st x ∧ zO c (eO s) = x (eO s)) := by
      intro V2 hF2
      rw [hF2 39 _ (by omega), hF2 39 _ (by omega)]
      rcases c4 with ⟨q1, q2, q3⟩ | ⟨q0, ⟨st, q1, q2⟩, st', q3, q4⟩
      · exact ⟨Or.inl ⟨q2, if_neg q1⟩, Or.inl ⟨q3, if_neg q1⟩⟩
      · exact ⟨Or.inr ⟨st, _, q1, q2.same (Nat.le_refl _) (fun k _ => hF2 40 k (by omega)), if_pos q0⟩, Or.inr ⟨st', _, q3, q4.same (Nat.le_refl _) (fun k _ => hF2 40 k (by omega)), if_pos q0⟩⟩
    have hTs : ∀ V2 : VIT, FrS V1 V2 → TxO l cl V2 := fun V2 hF2 => hT1.same (hF2 38 2 (by omega)) (funext (fun k => hF2 39 k (by omega))) (funext (fun k => hF2 40 k (by omega)))
    have hws : ∀ V2 : VIT, FrS V1 V2 → ∀ k, k < 36 → V2 60 k = Int32.ofInt (eO s (owm k)) ∧ -1000000000 ≤ eO s (owm k) ∧ eO s (owm k) ≤ 1000000000 := fun V2 hF2 k hk => by rw [hF2 60 k (by omega)]; exact hwd k hk
    have hbo : ∀ {o : Option Int} {a : Int}, (V1 39 (6 * i + 2) = -1 ∧ o = some 0) ∨ (∃ st x, V1 39 (6 * i + 2) = nI st ∧ TelV 36 owm V1 l st x ∧ o = x (eO s)) ∨ (V1 39 (6 * i + 3) = -1 ∧ o = some 0) ∨ (∃ st x, V1 39 (6 * i + 3) = nI st ∧ TelV 36 owm V1 l st x ∧ o = x (eO s)) ∨ (V1 39 (6 * i + 4) = -1 ∧ o = some 0) ∨ (∃ st x, V1 39 (6 * i + 4) = nI st ∧ TelV 36 owm V1 l st x ∧ o = x (eO s)) → o = some a → -1000002000 ≤ a ∧ a ≤ 1000002000 := by
      intro o a hh ha
      rcases hh with ⟨_, q⟩ | ⟨st, x, _, q, q'⟩ | ⟨_, q⟩ | ⟨st, x, _, q, q'⟩ | ⟨_, q⟩ | ⟨st, x, _, q, q'⟩
      · rw [q] at ha; cases ha; omega
      · exact q.bd hT1.2.2.1 hT1.2.2.2.1 (fun k hk => (hwd k hk).2) (q'.symm.trans ha)
      · rw [q] at ha; cases ha; omega
      · exact q.bd hT1.2.2.1 hT1.2.2.2.1 (fun k hk => (hwd k hk).2) (q'.symm.trans ha)
      · rw [q] at ha; cases ha; omega
      · exact q.bd hT1.2.2.1 hT1.2.2.2.1 (fun k hk => (hwd k hk).2) (q'.symm.trans ha)
    have rS : FrS V1 V1 := fun _ _ _ => rfl
    have hbx : ∀ a, xO c (eO s) = some a → -1000002000 ≤ a ∧ a ≤ 1000002000 := fun a ha => hbo ((hox V1 rS).elim Or.inl (fun z => Or.inr (Or.inl z))) ha
    have hby : ∀ a, yO c (eO s) = some a → -1000002000 ≤ a ∧ a ≤ 1000002000 := fun a ha => hbo ((hoy V1 rS).1.elim (fun z => Or.inr (Or.inr (Or.inl z))) (fun z => Or.inr (Or.inr (Or.inr (Or.inl z))))) ha
    have hbz : ∀ a, zO c (eO s) = some a → -1000002000 ≤ a ∧ a ≤ 1000002000 := fun a ha => hbo ((hoy V1 rS).2.elim (fun z => Or.inr (Or.inr (Or.inr (Or.inr (Or.inl z))))) (fun z => Or.inr (Or.inr (Or.inr (Or.inr (Or.inr z)))))) ha
    refine x_aload_n rfl rfl ?_
    refine x_iload_n rfl rfl ?_
    refine x_iconstN (q := 0) rfl ?_
    refine x_callV (M' := mi84) (As := [_, _]) (bc1 := 0) (bs1 := 0) (bc2 := 0) (bs2 := 0) rfl rfl rfl rfl ok84 rfl rfl (by decide) rfl rfl rfl rfl rfl rfl ?_
    refine s_head (b := 38) (hd := 39) rfl rfl rfl hT1.1 hT1.2.1 hi (by omega) ?_
    rw [show 6 * i + 0 = 6 * i by omega, c1]
    refine x_istore (ls' := [_, _, _, _, _, _, _, _, _]) rfl rfl rfl ?_
    refine x_aload_n rfl rfl ?_
    refine x_aload_n rfl rfl ?_
    refine x_iload_n rfl rfl ?_
    refine x_iconstN (q := 2) rfl ?_
    refine x_callV (M' := mi22) (As := [_, _, _]) (bc1 := 0) (bs1 := 0) (bc2 := 0) (bs2 := 0) rfl rfl rfl rfl ok22 rfl rfl (by decide) rfl rfl rfl rfl rfl rfl ?_
    refine x_sumHd (d := d + 9) hT1 hi (by omega) hwd (hox V1 rS) (fun V2 f2 => ?_)
    refine x_istore (ls' := [_, _, _, _, _, _, _, _, _]) rfl rfl rfl ?_
    refine x_aload_n rfl rfl ?_
    refine x_aload_n rfl rfl ?_
    refine x_iload_n rfl rfl ?_
    refine x_iconstN (q := 3) rfl ?_
    refine x_callV (M' := mi22) (As := [_, _, _]) (bc1 := 0) (bs1 := 0) (bc2 := 0) (bs2 := 0) rfl rfl rfl rfl ok22 rfl rfl (by decide) rfl rfl rfl rfl rfl rfl ?_
    refine x_sumHd (d := d + 9) (hTs V2 f2) hi (by omega) (hws V2 f2) (hoy V2 f2).1 (fun V3 f3' => ?_)
    have f3 : FrS V1 V3 := fun a k q => (f3' a k q).trans (f2 a k q)
    refine x_istore (ls' := [_, _, _, _, _, _, _, _, _]) rfl rfl rfl ?_
    refine x_aload_n rfl rfl ?_
    refine x_aload_n rfl rfl ?_
    refine x_iload_n rfl rfl ?_
    refine x_iconstN (q := 4) rfl ?_
    refine x_callV (M' := mi22) (As := [_, _, _]) (bc1 := 0) (bs1 := 0) (bc2 := 0) (bs2 := 0) rfl rfl rfl rfl ok22 rfl rfl (by decide) rfl rfl rfl rfl rfl rfl ?_
    refine x_sumHd (d := d + 9) (hTs V3 f3) hi (by omega) (hws V3 f3) (hoy V3 f3).2 (fun V4 f4' => ?_)
    skip
    have f4 : FrS V1 V4 := fun a k q => (f4' a k q).trans (f3 a k q)
    have hX4 : XO s V4 := hX1.same (fun a k q => f4 a k (by omega))
    have hF4 : FrOX V V4 := fun a k q1 q2 q3 q4 q5 q6 q7 q8 => (f4 a k q2).trans (hF1 a k q1 q2 q3 q4 q5 q6 q7 q8)
    have h64 : V4 59 6 = V 59 6 := (f4 59 6 (by omega)).trans h6
    have hL4 : Laws s.1 13 (LY ++ ext) V4 (vr G) := hL V4 (fun a ha => funext (fun k => hF4 a k (by omega) (by omega) (by omega) (by omega) (by omega) (by omega) (by omega) (by omega)))
    -- a sum that tells nothing
    have hbad : (xO c (eO s) = none ∨ yO c (eO s) = none ∨ zO c (eO s) = none) → P (some (.int (nI 0))) (LY ++ ext) V4 VL (vr G) := fun q => by
      refine h0 ?_ V4 hF4 h64
      rw [hE]
      rcases actO_cases (c := c) (s := s) with ⟨z, -⟩ | ⟨a, b, d', z1, z2, z3, -⟩
      · exact z
      · rw [z1, z2, z3] at q
        rcases q with q | q | q <;> cases q
    cases hxo : xO c (eO s) with
    | none =>
      have hk := hbad (Or.inl hxo)
      refine x_istore (ls' := [_, _, _, _, _, _, _, _, _]) rfl rfl rfl ?_
      refine x_iload rfl rfl ?_
      refine x_ldc rfl ?_
      refine x_icmp_eq rfl (fun c76 => ?_) (fun c76 => ?_)
      rotate_left
      · exact absurd rfl c76
      refine x_iconstN (q := 0) rfl ?_
      refine x_zret rfl rfl (by first | exact Or.inl rfl | exact Or.inr rfl) ?_
      exact hk | some a =>
      have ba := hbx a hxo
      cases hyo : yO c (eO s) with
      | none =>
        have hk := hbad (Or.inr (Or.inl hyo))
        refine x_istore (ls' := [_, _, _, _, _, _, _, _, _]) rfl rfl rfl ?_
        refine x_iload rfl rfl ?_
        refine x_ldc rfl ?_
        refine x_icmp_eq rfl (fun c76 => ?_) (fun c76 => ?_)
        · exact absurd c76 (obr_ne ba.1 ba.2)
        refine x_iload rfl rfl ?_
        refine x_ldc rfl ?_
        refine x_icmp_eq rfl (fun c83 => ?_) (fun c83 => ?_)
        rotate_left
        · exact absurd rfl c83
        refine x_iconstN (q := 0) rfl ?_
        refine x_zret rfl rfl (by first | exact Or.inl rfl | exact Or.inr rfl) ?_
        exact hk | some b =>
        have bb := hby b hyo
        cases hzo : zO c (eO s) with
        | none =>
          have hk := hbad (Or.inr (Or.inr hzo))
          refine x_istore (ls' := [_, _, _, _, _, _, _, _, _]) rfl rfl rfl ?_
          refine x_iload rfl rfl ?_
          refine x_ldc rfl ?_
          refine x_icmp_eq rfl (fun c76 => ?_) (fun c76 => ?_)
          · exact absurd c76 (obr_ne ba.1 ba.2)
          refine x_iload rfl rfl ?_
          refine x_ldc rfl ?_
          refine x_icmp_eq rfl (fun c83 => ?_) (fun c83 => ?_)
          · exact absurd c83 (obr_ne bb.1 bb.2)
          refine x_iload rfl rfl ?_
          refine x_ldc rfl ?_
          refine x_icmp_ne rfl (fun c90 => ?_) (fun c90 => ?_)
          · exact absurd rfl c90
          refine x_iconstN (q := 0) rfl ?_
          refine x_zret rfl rfl (by first | exact Or.inl rfl | exact Or.inr rfl) ?_
          exact hk | some e =>
          have be := hbz e hzo
          have hEq : oneO c s = (deedA c.1 s.1 a b e).map (fun q => nxtO c.1 s q) := by
            rw [hE]
            unfold actO
            rw [hxo, hyo, hzo]
            rfl
          refine x_istore (ls' := [_, _, _, _, _, _, _, _, _]) rfl rfl rfl ?_
          refine x_iload rfl rfl ?_
          refine x_ldc rfl ?_
          refine x_icmp_eq rfl (fun c76 => ?_) (fun c76 => ?_)
          · exact absurd c76 (obr_ne ba.1 ba.2)
          refine x_iload rfl rfl ?_
          refine x_ldc rfl ?_
          refine x_icmp_eq rfl (fun c83 => ?_) (fun c83 => ?_)
          · exact absurd c83 (obr_ne bb.1 bb.2)
          refine x_iload rfl rfl ?_
          refine x_ldc rfl ?_
          refine x_icmp_ne rfl (fun c90 => ?_) (fun c90 => ?_)
          rotate_left
          · exact absurd c90 (obr_ne be.1 be.2)
          skip
          have hno : ∀ (V5 : VIT) (w : Int32) (zz : Int32), deedA c.1 s.1 a b e = none → FrH V4 V5 → P (some (.int (nI 0))) (LY ++ ext) (up V5 59 4 zz) VL (vr G) := fun V5 w zz q hF5 => by
            refine h0 (by rw [hEq, q]; rfl) _ (fun a k q1 q2 q3 q4 q5 q6 q7 q8 => ?_) ?_
            · rw [up_ne2 (by omega), hF5 a k q2 q3 q4]; exact hF4 a k q1 q2 q3 q4 q5 q6 q7 q8
            · rw [up_at' (by omega), hF5 59 6 (by omega) (by omega) (by omega)]; exact h64
          have hyes : ∀ (V5 V6 : VIT) (K' : KT) (g r : Nat), deedA c.1 s.1 a b e = some (K', g, r) → KXo V4 V5 (sO s.2.1) (vO s.2.1) g → RW 3 K' V5 → (∀ a k, ¬ (a = 59 ∧ (k = 4 ∨ k = 5)) → V6 a k = V5 a k) → V6 59 4 = nI (s.2.2.2.2.1 + 1) → V6 59 5 = Int32.ofInt (if c.1 = 0 then (r : Int) else s.2.2.2.2.2) → P (some (.int (nI 1))) (LY ++ ext) V6 VL (vr G) := fun V5 V6 K' g r q q1 q2 q3 q4 q5 => by
            refine h1 (nxtO c.1 s (K', g, r)) V6 (by rw [hEq, q]; rfl) (hX4.nxt o2 q1 q2 (fun a k z => q3 a k (by omega)) q4 q5) (fun a k z1 z2 z3 z4 z5 z6 z7 z8 => ?_) ?_
            · rw [q3 a k (by omega), q1.2.2.2 a k z2 z3 z4 z6 z5 (by omega)]; exact hF4 a k z1 z2 z3 z4 z5 z6 z7 z8
            · rw [q3 59 6 (by omega), q1.2.2.2 59 6 (by omega) (by omega) (by omega) (by omega) (by omega) (by omega)]; exact h64
          have r4 : ∀ V5 : VIT, (∃ g, KXo V4 V5 (sO s.2.1) (vO s.2.1) g) ∨ FrH V4 V5 → V5 59 4 = nI s.2.2.2.2.1 ∧ V5 59 5 = Int32.ofInt s.2.2.2.2.2 := fun V5 q => by
            rcases q with ⟨g, q⟩ | q
            · exact ⟨(q.2.2.2 59 4 (by omega) (by omega) (by omega) (by omega) (by omega) (by omega)).trans hX4.2.2.2.1, (q.2.2.2 59 5 (by omega) (by omega) (by omega) (by omega) (by omega) (by omega)).trans hX4.2.2.2.2⟩
            · exact ⟨(q 59 4 (by omega) (by omega) (by omega)).trans hX4.2.2.2.1, (q 59 5 (by omega) (by omega) (by omega)).trans hX4.2.2.2.2⟩
          rcases (show c.1 = 0 ∨ c.1 = 1 ∨ c.1 = 2 ∨ c.1 = 3 by omega) with k0 | k0 | k0 | k0
          · rw [k0] at hno hyes
            rw [k0]
            refine x_iload rfl rfl ?_
            refine x_ifN_ne rfl (fun c97 => ?_) (fun c97 => ?_)
            · exact absurd c97 (by first | decide | omega)
            refine x_aload_n rfl rfl ?_
            refine x_getR (u := .ref _) rfl rfl rfl rfl ?_
            refine x_iload rfl rfl ?_
            refine x_iload rfl rfl ?_
            refine x_iload rfl rfl ?_
            refine x_callV (M' := mi1) (As := [_, _, _]) (bc1 := 0) (bs1 := 0) (bc2 := 0) (bs2 := 0) rfl rfl rfl rfl ok1 rfl rfl (by decide) rfl rfl rfl rfl rfl rfl ?_
            refine x_talkO (K := s.1) (a := a) (b := b) (c := e) hX4.1 o1 hL4 hX4.2.1 o2 ba bb be (fun K' g r V5 q1 q2 q3 q4 => ?_) (fun q1 V5 w q2 q3 => ?_)
            skip
            · have r5 := (r4 V5 (Or.inl ⟨g, q2⟩)).1
              refine x_istore (ls' := [_, _, _, _, _, _, _, _, _]) rfl rfl rfl ?_
              refine x_aload_n rfl rfl ?_
              refine x_iload rfl rfl ?_
              refine x_putI rfl rfl rfl rfl ?_
              refine x_goto rfl ?_
              refine x_aload_n rfl rfl ?_
              refine x_dup rfl rfl ?_
              refine x_getE (y := 4) rfl rfl rfl ((up_at' (by omega)).trans r5) ?_
              refine x_iconstN (q := 1) rfl ?_
              refine x_iaddN rfl ?_
              refine x_putI rfl rfl rfl rfl ?_
              refine x_iload rfl rfl ?_
              refine x_ifN_lt rfl ?_
              refine x_iconstN (q := 1) rfl ?_
              refine x_goto rfl ?_
              refine x_zret rfl rfl (by first | exact Or.inl rfl | exact Or.inr rfl) ?_
              refine hyes V5 _ K' g r q1 q2 q3 (fun a k z => by rw [up_ne2 (by omega), up_ne2 (by omega)]) up_at ?_
              rw [up_at' (by omega), up_at, if_pos rfl]
              exact oI_nat
            · have r5 := (r4 V5 (Or.inr q3)).1
              have hk : ∀ zz : Int32, P (some (.int (nI 0))) (LY ++ ext) (up (up V5 59 5 w) 59 4 zz) VL (vr G) := fun zz => by
                refine h0 (by rw [hEq, k0, q1]; rfl) _ (fun a k z1 z2 z3 z4 z5 z6 z7 z8 => ?_) ?_
                · rw [up_ne2 (by omega), up_ne2 (by omega), q3 a k z2 z3 z4]; exact hF4 a k z1 z2 z3 z4 z5 z6 z7 z8
                · rw [up_at' (by omega), up_at' (by omega), q3 59 6 (by omega) (by omega) (by omega)]; exact h64
              refine x_istore (ls' := [_, _, _, _, _, _, _, _, _]) rfl rfl rfl ?_
              refine x_aload_n rfl rfl ?_
              refine x_iload rfl rfl ?_
              refine x_putI rfl rfl rfl rfl ?_
              refine x_goto rfl ?_
              refine x_aload_n rfl rfl ?_
              refine x_dup rfl rfl ?_
              refine x_getE (y := 4) rfl rfl rfl ((up_at' (by omega)).trans r5) ?_
              refine x_iconstN (q := 1) rfl ?_
              refine x_iaddN rfl ?_
              refine x_putI rfl rfl rfl rfl ?_
              refine x_iload rfl rfl ?_
              refine x_if_lt rfl (fun c185 => ?_) (fun c185 => ?_)
              rotate_left
              · exact absurd q2 c185
              refine x_iconstN (q := 0) rfl ?_
              refine x_zret rfl rfl (by first | exact Or.inl rfl | exact Or.inr rfl) ?_
              exact hk _
          · rw [k0] at hno hyes
            rw [k0]
            refine x_iload rfl rfl ?_
            refine x_ifN_ne rfl (fun c97 => ?_) (fun c97 => ?_)
            rotate_left
            · exact absurd c97 (by first | decide | omega)
            refine x_iload rfl rfl ?_
            refine x_iconstN (q := 1) rfl ?_
            refine x_icmpN_ne rfl (fun c127 => ?_) (fun c127 => ?_)
            · exact absurd c127 (by first | decide | omega)
            refine x_aload_n rfl rfl ?_
            refine x_getR (u := .ref _) rfl rfl rfl rfl ?_
            refine x_iload rfl rfl ?_
            refine x_callV (M' := mi2) (As := [_]) (bc1 := 0) (bs1 := 0) (bc2 := 0) (bs2 := 0) rfl rfl rfl rfl ok2 rfl rfl (by decide) rfl rfl rfl rfl rfl rfl ?_
            refine x_devO (K := s.1) (a := a) (b := b) (c := e) hX4.1 o1 hX4.2.1 o2 ba (fun K' g r V5 q1 q2 q3 q4 => ?_) (fun q1 V5 w q2 q3 => ?_)
            skip
            · have r5 := r4 V5 (Or.inl ⟨g, q2⟩)
              refine x_istore (ls' := [_, _, _, _, _, _, _, _, _]) rfl rfl rfl ?_
              refine x_goto rfl ?_
              refine x_aload_n rfl rfl ?_
              refine x_dup rfl rfl ?_
              refine x_getE (y := 4) rfl rfl rfl r5.1 ?_
              refine x_iconstN (q := 1) rfl ?_
              refine x_iaddN rfl ?_
              refine x_putI rfl rfl rfl rfl ?_
              refine x_iload rfl rfl ?_
              refine x_ifN_lt rfl ?_
              refine x_iconstN (q := 1) rfl ?_
              refine x_goto rfl ?_
              refine x_zret rfl rfl (by first | exact Or.inl rfl | exact Or.inr rfl) ?_
              refine hyes V5 _ K' g r q1 q2 q3 (fun a k z => up_ne2 (by omega)) up_at ?_
              rw [up_at' (by omega), if_neg (by omega)]
              exact r5.2
            · have r5 := (r4 V5 (Or.inr q3)).1
              refine x_istore (ls' := [_, _, _, _, _, _, _, _, _]) rfl rfl rfl ?_
              refine x_goto rfl ?_
              refine x_aload_n rfl rfl ?_
              refine x_dup rfl rfl ?_
              refine x_getE (y := 4) rfl rfl rfl r5 ?_
              refine x_iconstN (q := 1) rfl ?_
              refine x_iaddN rfl ?_
              refine x_putI rfl rfl rfl rfl ?_
              refine x_iload rfl rfl ?_
              refine x_if_lt rfl (fun c185 => ?_) (fun c185 => ?_)
              rotate_left
              · exact absurd q2 c185
              refine x_iconstN (q := 0) rfl ?_
              refine x_zret rfl rfl (by first | exact Or.inl rfl | exact Or.inr rfl) ?_
              exact hno V5 w _ q1 q3
          · rw [k0] at hno hyes
            rw [k0]
            refine x_iload rfl rfl ?_
            refine x_ifN_ne rfl (fun c97 => ?_) (fun c97 => ?_)
            rotate_left
            · exact absurd c97 (by first | decide | omega)
            refine x_iload rfl rfl ?_
            refine x_iconstN (q := 1) rfl ?_
            refine x_icmpN_ne rfl (fun c127 => ?_) (fun c127 => ?_)
            rotate_left
            · exact absurd c127 (by first | decide | omega)
            refine x_iload rfl rfl ?_
            refine x_iconstN (q := 2) rfl ?_
            refine x_icmpN_ne rfl (fun c147 => ?_) (fun c147 => ?_)
            · exact absurd c147 (by first | decide | omega)
            refine x_aload_n rfl rfl ?_
            refine x_getR (u := .ref _) rfl rfl rfl rfl ?_
            refine x_iload rfl rfl ?_
            refine x_callV (M' := mi3) (As := [_]) (bc1 := 0) (bs1 := 0) (bc2 := 0) (bs2 := 0) rfl rfl rfl rfl ok3 rfl rfl (by decide) rfl rfl rfl rfl rfl rfl ?_
            refine x_buryO (K := s.1) (a := a) (b := b) (c := e) hX4.1 o1 hX4.2.1 o2 ba (fun K' g r V5 q1 q2 q3 q4 => ?_) (fun q1 V5 w q2 q3 => ?_)
            skip
            · have r5 := r4 V5 (Or.inl ⟨g, q2⟩)
              refine x_istore (ls' := [_, _, _, _, _, _, _, _, _]) rfl rfl rfl ?_
              refine x_goto rfl ?_
              refine x_aload_n rfl rfl ?_
              refine x_dup rfl rfl ?_
              refine x_getE (y := 4) rfl rfl rfl r5.1 ?_
              refine x_iconstN (q := 1) rfl ?_
              refine x_iaddN rfl ?_
              refine x_putI rfl rfl rfl rfl ?_
              refine x_iload rfl rfl ?_
              refine x_ifN_lt rfl ?_
              refine x_iconstN (q := 1) rfl ?_
              refine x_goto rfl ?_
              refine x_zret rfl rfl (by first | exact Or.inl rfl | exact Or.inr rfl) ?_
              refine hyes V5 _ K' g r q1 q2 q3 (fun a k z => up_ne2 (by omega)) up_at ?_
              rw [up_at' (by omega), if_neg (by omega)]
              exact r5.2
            · have r5 := (r4 V5 (Or.inr q3)).1
              refine x_istore (ls' := [_, _, _, _, _, _, _, _, _]) rfl rfl rfl ?_
              refine x_goto rfl ?_
              refine x_aload_n rfl rfl ?_
              refine x_dup rfl rfl ?_
              refine x_getE (y := 4) rfl rfl rfl r5 ?_
              refine x_iconstN (q := 1) rfl ?_
              refine x_iaddN rfl ?_
              refine x_putI rfl rfl rfl rfl ?_
              refine x_iload rfl rfl ?_
              refine x_if_lt rfl (fun c185 => ?_) (fun c185 => ?_)
              rotate_left
              · exact absurd q2 c185
              refine x_iconstN (q := 0) rfl ?_
              refine x_zret rfl rfl (by first | exact Or.inl rfl | exact Or.inr rfl) ?_
              exact hno V5 w _ q1 q3
          · rw [k0] at hno hyes
            rw [k0]
            refine x_iload rfl rfl ?_
            refine x_ifN_ne rfl (fun c97 => ?_) (fun c97 => ?_)
            rotate_left
            · exact absurd c97 (by first | decide | omega)
            refine x_iload rfl rfl ?_
            refine x_iconstN (q := 1) rfl ?_
            refine x_icmpN_ne rfl (fun c127 => ?_) (fun c127 => ?_)
            rotate_left
            · exact absurd c127 (by first | decide | omega)
            refine x_iload rfl rfl ?_
            refine x_iconstN (q := 2) rfl ?_
            refine x_icmpN_ne rfl (fun c147 => ?_) (fun c147 => ?_)
            rotate_left
            · exact absurd c147 (by first | decide | omega)
            refine x_aload_n rfl rfl ?_
            refine x_getR (u := .ref _) rfl rfl rfl rfl ?_
            refine x_callV (M' := mi4) (As := []) (bc1 := 0) (bs1 := 0) (bc2 := 0) (bs2 := 0) rfl rfl rfl rfl ok4 rfl rfl (by decide) rfl rfl rfl rfl rfl rfl ?_
            refine x_passO (K := s.1) (a := a) (b := b) (c := e) hX4.1 o1 hX4.2.1 o2 (fun K' g r V5 q1 q2 q3 q4 => ?_) (fun q1 V5 w q2 q3 => ?_)
            skip
            · have r5 := r4 V5 (Or.inl ⟨g, q2⟩)
              refine x_istore (ls' := [_, _, _, _, _, _, _, _, _]) rfl rfl rfl ?_
              refine x_aload_n rfl rfl ?_
              refine x_dup rfl rfl ?_
              refine x_getE (y := 4) rfl rfl rfl r5.1 ?_
              refine x_iconstN (q := 1) rfl ?_
              refine x_iaddN rfl ?_
              refine x_putI rfl rfl rfl rfl ?_
              refine x_iload rfl rfl ?_
              refine x_ifN_lt rfl ?_
              refine x_iconstN (q := 1) rfl ?_
              refine x_goto rfl ?_
              refine x_zret rfl rfl (by first | exact Or.inl rfl | exact Or.inr rfl) ?_
              refine hyes V5 _ K' g r q1 q2 q3 (fun a k z => up_ne2 (by omega)) up_at ?_
              rw [up_at' (by omega), if_neg (by omega)]
              exact r5.2
            · have r5 := (r4 V5 (Or.inr q3)).1
              refine x_istore (ls' := [_, _, _, _, _, _, _, _, _]) rfl rfl rfl ?_
              refine x_aload_n rfl rfl ?_
              refine x_dup rfl rfl ?_
              refine x_getE (y := 4) rfl rfl rfl r5 ?_
              refine x_iconstN (q := 1) rfl ?_
              refine x_iaddN rfl ?_
              refine x_putI rfl rfl rfl rfl ?_
              refine x_iload rfl rfl ?_
              refine x_if_lt rfl (fun c185 => ?_) (fun c185 => ?_)
              rotate_left
              · exact absurd q2 c185
              refine x_iconstN (q := 0) rfl ?_
              refine x_zret rfl rfl (by first | exact Or.inl rfl | exact Or.inr rfl) ?_
              exact hno V5 w _ q1 q3
  refine x_aload_n rfl rfl ?_
  refine x_callV (M' := mi23) (As := []) (bc1 := 0) (bs1 := 0) (bc2 := 0) (bs2 := 0) rfl rfl rfl rfl ok23 rfl rfl (by decide) rfl rfl rfl rfl rfl rfl ?_
  refine x_setWordsO hx1 o1 hx4 hx5 (fun V1 F1 w1 => ?_)
  skip
  have hX1 : XO s V1 := hX.same (fun a k q => congrFun (F1 a (by omega)) k)
  have hF1 : FrOX V V1 := fun a k q1 q2 q3 q4 q5 q6 q7 q8 => congrFun (F1 a q8) k
  have hT1 := hT.fr hF1
  have h61 : V1 59 6 = V 59 6 := congrFun (F1 59 (by omega)) 6
  have hwd : ∀ k, k < 36 → V1 60 k = Int32.ofInt (eO s (owm k)) ∧ -1000000000 ≤ eO s (owm k) ∧ eO s (owm k) ≤ 1000000000 := fun k hk => ⟨w1 k hk, hbd k hk⟩
  obtain ⟨-, -, -, -, c5⟩ := (hT1.2.2.2.2 i c hc).1
  rcases c5 with ⟨q0, q1⟩ | ⟨q0, st, q1, q2⟩
  · refine x_aload_n rfl rfl ?_
    refine x_iload_n rfl rfl ?_
    refine x_iconstN (q := 5) rfl ?_
    refine x_callV (M' := mi84) (As := [_, _]) (bc1 := 0) (bs1 := 0) (bc2 := 0) (bs2 := 0) rfl rfl rfl rfl ok84 rfl rfl (by decide) rfl rfl rfl rfl rfl rfl ?_
    refine s_head (b := 38) (hd := 39) rfl rfl rfl hT1.1 hT1.2.1 hi (by omega) ?_
    rw [q1]
    refine x_istore_n (ls' := [_, _, _, _, _, _, _, _, _]) rfl rfl rfl ?_
    refine x_iload_n rfl rfl ?_
    refine x_iconst rfl ?_
    refine x_icmp_eq rfl (fun c13 => ?_) (fun c13 => ?_)
    rotate_left
    · exact absurd rfl c13
    exact hmain V1 _ hX1 hT1 hF1 h61 hwd (fun z => absurd z.1 (by omega))
  · obtain ⟨l1, g1, g2, g3⟩ := id q2
    have g4 := g1.1
    have h3 := hT1.2.2.1
    refine x_aload_n rfl rfl ?_
    refine x_iload_n rfl rfl ?_
    refine x_iconstN (q := 5) rfl ?_
    refine x_callV (M' := mi84) (As := [_, _]) (bc1 := 0) (bs1 := 0) (bc2 := 0) (bs2 := 0) rfl rfl rfl rfl ok84 rfl rfl (by decide) rfl rfl rfl rfl rfl rfl ?_
    refine s_head (b := 38) (hd := 39) rfl rfl rfl hT1.1 hT1.2.1 hi (by omega) ?_
    rw [q1]
    refine x_istore_n (ls' := [_, _, _, _, _, _, _, _, _]) rfl rfl rfl ?_
    refine x_iload_n rfl rfl ?_
    refine x_iconst rfl ?_
    refine x_icmp_eq rfl (fun c13 => ?_) (fun c13 => ?_)
    · exact absurd c13 (nI_m1 (by omega))
    refine x_aload_n rfl rfl ?_
    refine x_getR (u := .ref _) rfl rfl rfl rfl ?_
    refine x_aload_n rfl rfl ?_
    refine x_iload_n rfl rfl ?_
    refine x_aload_n rfl rfl ?_
    refine x_getR (u := .ref _) rfl rfl rfl rfl ?_
    refine x_callV (M' := mi77) (As := [_, _, _]) (bc1 := 0) (bs1 := 0) (bc2 := 0) (bs2 := 0) rfl rfl rfl rfl ok77 rfl rfl (by decide) rfl rfl rfl rfl rfl rfl ?_
    refine q2.value h3 hT1.2.2.2.1 hwd (fun V2 f2 => ?_)
    refine x_callS (M' := mi79) (As := [_]) (bc1 := 0) (bs1 := 0) (bc2 := 0) (bs2 := 0) rfl rfl rfl rfl ok79 rfl rfl rfl rfl rfl rfl ?_
    refine s_isSo (fun a ha => q2.bd h3 hT1.2.2.2.1 (fun k hk => (hwd k hk).2) ha) ?_
    skip
    have hX2 : XO s V2 := hX1.same (fun a k q => f2 a k (by omega))
    have hF2 : FrOX V V2 := fun a k z1 z2 z3 z4 z5 z6 z7 z8 => (f2 a k z2).trans (hF1 a k z1 z2 z3 z4 z5 z6 z7 z8)
    have h62 : V2 59 6 = V 59 6 := (f2 59 6 (by omega)).trans h61
    cases hso : soB (c.2.2.2.2.2.2 (eO s)) with
    | false =>
      have hk := h1 s V2 (oneO_off ⟨q0, hso⟩) hX2 hF2 h62
      refine x_if_ne rfl (fun c32 => ?_) (fun c32 => ?_)
      · exact absurd rfl c32
      refine x_iconstN (q := 1) rfl ?_
      refine x_zret rfl rfl (by first | exact Or.inl rfl | exact Or.inr rfl) ?_
      exact hk | true =>
      refine x_if_ne rfl (fun c32 => ?_) (fun c32 => ?_)
      rotate_left
      · exact absurd c32 (by decide)
      exact hmain V2 _ hX2 (hT.fr hF2) hF2 h62 (fun k hk => by rw [f2 60 k (by omega)]; exact hwd k hk) (fun z => absurd (hso.symm.trans z.2) (by decide))
end CCould
