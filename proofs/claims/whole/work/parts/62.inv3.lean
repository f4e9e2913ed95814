/-! ===== the invariant ===== -/
def ku (K : KT) (i v : Nat) : KT := fun j => if j = i then v else K j
set_option maxRecDepth 20000 in
theorem ku_same {K : KT} {i v : Nat} : ku K i v i = v := if_pos rfl
set_option maxRecDepth 20000 in
theorem ku_ne {K : KT} {i j v : Nat} (h : j ≠ i) : ku K i v j = K j := if_neg h
set_option maxRecDepth 20000 in
theorem RK.ku {VI : VIT} {K : KT} {i v : Nat} {x : Int32} (h : RK (VI 76) K) (hi : i ≠ 97) (hx : x = nI v) : RK (up VI 76 i x 76) (ku K i v) := by
  refine h.set (fun j hj hn => ?_) (Or.inl ⟨?_, ku_ne (fun e => hi e.symm)⟩)
  · by_cases e : j = i
    · subst e
      refine Or.inr ?_
      rw [ku_same, ← hx]
      simp [up]
    · refine Or.inl ⟨?_, ku_ne e⟩
      simp [up, e]
  · simp only [up, if_pos]
    rw [if_neg (fun e => hi e.symm)]
/-- image k -/
def Img (k : Nat) (lay : HL) (VI : VIT) (VR : VRT) : Prop := ∃ KI : KT, WF KI ∧ RW (15 + 11 * k) KI VI ∧ RK (fun i => VI 77 (5705 * k + i)) KI ∧ Laws KI (25 + 11 * k) lay VI VR
def Imgs (lay : HL) (VI : VIT) (VR : VRT) : Prop := ∃ hm : Nat, hm < 4 ∧ VI 0 12 = nI hm ∧ (∀ k, k < 2 → VI 78 k = nI (hm / 2 ^ k % 2)) ∧ ∀ k, k < 2 → hm / 2 ^ k % 2 = 1 → Img k lay VI VR
/-- the rows of texts hold texts or nothing -/
def Refs (lay : HL) (VR : VRT) : Prop := ∀ w, (w = 13 ∨ w = 25 ∨ w = 36 ∨ w = 57) → ∀ i, i < 6 → VR w i = .null ∨ ∃ b, VR w i = .ref b ∧ lay[b]? = some (.inr 9)
/-- all that stands between two calls -/
def St (j : Nat) (ext : HL) (G : VRT) (K : KT) (tn : Nat) (T : Nat → Nat) (u : Nat) (US : Nat → KT) (lg : Nat → Nat) (VI : VIT) : Prop :=
  WF K ∧ RW 3 K VI ∧ RK (VI 76) K ∧ Misc VI ∧ Tape tn T VI ∧ Und K u US lg VI ∧ Drawn VI ∧ Stamp j VI ∧ Imgs (LY ++ ext) VI (vr G) ∧ Laws K 13 (LY ++ ext) VI (vr G) ∧ VI 80 = VIm 80 ∧ Refs (LY ++ ext) (vr G)
def Inv (j : Nat) (lay : HL) (VI : VIT) (_ : VLT) (VR : VRT) : Prop := ∃ (ext : HL) (G : VRT) (K : KT) (tn : Nat) (T : Nat → Nat) (u : Nat) (US : Nat → KT) (lg : Nat → Nat), lay = LY ++ ext ∧ VR = vr G ∧ St j ext G K tn T u US lg VI
set_option maxRecDepth 20000 in
theorem Stamp.next {j : Nat} {VI : VIT} (h : Stamp j VI) : Stamp (j + 1) VI := by
  obtain ⟨s, h1, h2⟩ := h
  exact ⟨s, by omega, h2⟩
set_option maxRecDepth 20000 in
theorem Laws.same {K K' : KT} {w : Nat} {lay : HL} {VI VI' : VIT} {VR : VRT} (h : Laws K w lay VI VR) (e : K' 96 = K 96) (hs : ∀ i, 98 ≤ i → i < 105 → K' i = K i) (hK : ∀ k, k < 2400 → K' (105 + k) = K (105 + k)) (hK2 : ∀ k, k < 2400 → K' (2905 + k) = K (2905 + k)) (hw : K 96 ≤ 6) (hV : ∀ a, 100 ≤ a → VI' a = VI a) : Laws K' w lay VI' VR := by
  intro t ht
  obtain ⟨b, h1, h2, h3, h4⟩ := h t (by omega)
  refine ⟨b, h1, h2, h3, ?_⟩
  have h5 := h4.same (ext := []) (K' := K') (VI' := VI') (hs _ (by omega) (by omega)) (fun k hk => ?_) (fun k hk => ?_) (fun a ha _ => hV a ha)
  · rw [List.append_nil] at h5; exact h5
  · rw [Nat.add_assoc]; exact hK _ (by omega)
  · rw [Nat.add_assoc]; exact hK2 _ (by omega)
set_option maxRecDepth 20000 in
theorem Laws.sameV {K : KT} {w : Nat} {lay : HL} {VI VI' : VIT} {VR : VRT} (h : Laws K w lay VI VR) (hw : K 96 ≤ 6) (hV : ∀ a, 100 ≤ a → VI' a = VI a) : Laws K w lay VI' VR := h.same rfl (fun _ _ _ => rfl) (fun _ _ => rfl) (fun _ _ => rfl) hw hV
set_option maxRecDepth 20000 in
theorem WF.l6 {K : KT} (h : WF K) : K 96 ≤ 6 := h.2.2.2.1
set_option maxRecDepth 20000 in
theorem Img.same {k : Nat} {lay : HL} {VI VI' : VIT} {VR : VRT} (h : Img k lay VI VR) (hk : k < 2) (e1 : ∀ a, 15 ≤ a → a ≤ 36 → VI' a = VI a) (e2 : VI' 77 = VI 77) (e3 : ∀ a, 100 ≤ a → VI' a = VI a) : Img k lay VI' VR := by
  obtain ⟨KI, h1, h2, h3, h4⟩ := h
  refine ⟨KI, h1, h2.same (fun a ha hb => e1 a (by omega) (by omega)), ?_, h4.sameV h1.l6 e3⟩
  rw [e2]; exact h3
set_option maxRecDepth 20000 in
theorem Imgs.same {lay : HL} {VI VI' : VIT} {VR : VRT} (h : Imgs lay VI VR) (e0 : VI' 0 12 = VI 0 12) (e1 : ∀ a, 15 ≤ a → a ≤ 36 → VI' a = VI a) (e2 : VI' 77 = VI 77) (e4 : VI' 78 = VI 78) (e3 : ∀ a, 100 ≤ a → VI' a = VI a) : Imgs lay VI' VR := by
  obtain ⟨hm, h1, h2, h3, h4⟩ := h
  exact ⟨hm, h1, by rw [e0]; exact h2, by rw [e4]; exact h3, fun k hk hb => (h4 k hk hb).same hk e1 e2 e3⟩
set_option maxRecDepth 20000 in
theorem St.next {j : Nat} {ext : HL} {G : VRT} {K : KT} {tn : Nat} {T : Nat → Nat} {u : Nat} {US : Nat → KT} {lg : Nat → Nat} {VI : VIT} (h : St j ext G K tn T u US lg VI) : St (j + 1) ext G K tn T u US lg VI := by
  obtain ⟨h1, h2, h3, h4, h5, h6, h7, h8, h9⟩ := h
  exact ⟨h1, h2, h3, h4, h5, h6, h7, h8.next, h9⟩
set_option maxRecDepth 20000 in
theorem Inv.next {j : Nat} {lay : HL} {VI : VIT} {VL : VLT} {VR : VRT} (h : Inv j lay VI VL VR) : Inv (j + 1) lay VI VL VR := by
  obtain ⟨ext, G, K, tn, T, u, US, lg, h1, h2, h3⟩ := h
  exact ⟨ext, G, K, tn, T, u, US, lg, h1, h2, h3.next⟩
set_option maxRecDepth 20000 in
theorem St.inv {j : Nat} {ext : HL} {G : VRT} {K : KT} {tn : Nat} {T : Nat → Nat} {u : Nat} {US : Nat → KT} {lg : Nat → Nat} {VI : VIT} {VL : VLT} (h : St j ext G K tn T u US lg VI) : Inv j (LY ++ ext) VI VL (vr G) := ⟨ext, G, K, tn, T, u, US, lg, rfl, rfl, h⟩
set_option maxRecDepth 20000 in
theorem up_at {α : Type} {f : Nat → Nat → α} {a k : Nat} {x : α} : up f a k x a k = x := by simp [up]
set_option maxRecDepth 20000 in
theorem up_at' {α : Type} {f : Nat → Nat → α} {a k j : Nat} {x : α} (h : j ≠ k) : up f a k x a j = f a j := by simp [up, h]
-- addresses apart from those four
set_option maxRecDepth 20000 in
theorem up4_ne {VI : VIT} {a1 k1 a2 k2 a3 k3 a4 k4 : Nat} {x1 x2 x3 x4 : Int32} {a : Nat} (h1 : a ≠ a1) (h2 : a ≠ a2) (h3 : a ≠ a3) (h4 : a ≠ a4) : up (up (up (up VI a1 k1 x1) a2 k2 x2) a3 k3 x3) a4 k4 x4 a = VI a := by rw [up_ne h4, up_ne h3, up_ne h2, up_ne h1]
-- both sides refuse alike
set_option maxRecDepth 20000 in
theorem St.refuse {j : Nat} {ext : HL} {G : VRT} {K : KT} {tn : Nat} {T : Nat → Nat} {u : Nat} {US : Nat → KT} {lg : Nat → Nat} {VI : VIT} (h : St j ext G K tn T u US lg VI) {v : Int32} {k : Nat} (hk : k < 6) : St (j + 1) ext G K tn T u US lg (up (up (up (up VI 0 17 v) 73 k (VI 73 k + 1)) 74 0 v) 75 (k + 1) (VI 75 (k + 1) + 1)) := by
  obtain ⟨h1, h2, h3, h4, h5, h6, h7, h8, h9, h10, h11⟩ := h
  refine ⟨h1, h2.same (fun a _ _ => up4_ne (by omega) (by omega) (by omega) (by omega)), ?_, ?_, h5.same rfl rfl rfl rfl, h6.same rfl rfl rfl rfl, h7.same rfl rfl rfl rfl, (h8.same rfl rfl).next, h9.same rfl (fun a _ _ => up4_ne (by omega) (by omega) (by omega) (by omega)) rfl rfl (fun a _ => up4_ne (by omega) (by omega) (by omega) (by omega)), h10.sameV h1.l6 (fun a _ => up4_ne (by omega) (by omega) (by omega) (by omega)), h11⟩
  · exact h3
  · obtain ⟨m1, m2, m3, m4, m5⟩ := h4
    refine ⟨rfl, m2, m3, m4, fun i hi => ?_⟩
    have e := m5 i hi
    by_cases c : i = k
    · subst c
      simp [up, e]
    · simp [up, e, c]
-- a state whose status alone became 0
set_option maxRecDepth 20000 in
theorem St.good {j : Nat} {ext : HL} {G : VRT} {K : KT} {tn : Nat} {T : Nat → Nat} {u : Nat} {US : Nat → KT} {lg : Nat → Nat} {VI : VIT} (h : St j ext G K tn T u US lg VI) : St (j + 1) ext G K tn T u US lg (up (up VI 0 17 0) 74 0 0) := by
  obtain ⟨h1, h2, h3, h4, h5, h6, h7, h8, h9, h10, h11⟩ := h
  have e : ∀ a, a ≠ 0 → a ≠ 74 → up (up VI 0 17 0) 74 0 0 a = VI a := fun a q1 q2 => by rw [up_ne q2, up_ne q1]
  refine ⟨h1, h2.same (fun a _ _ => e a (by omega) (by omega)), h3, ?_, h5.same rfl rfl rfl rfl, h6.same rfl rfl rfl rfl, h7.same rfl rfl rfl rfl, (h8.same rfl rfl).next, h9.same rfl (fun a _ _ => e a (by omega) (by omega)) rfl rfl (fun a _ => e a (by omega) (by omega)), h10.sameV h1.l6 (fun a _ => e a (by omega) (by omega)), h11⟩
  obtain ⟨m1, m2, m3, m4, m5⟩ := h4
  exact ⟨rfl, m2, m3, m4, m5⟩
set_option maxRecDepth 20000 in
theorem RW.n {w : Nat} {K : KT} {VI : VIT} (h : RW w K VI) : VI w 0 = nI (K 93) := h.1
set_option maxRecDepth 20000 in
theorem RW.lm {w : Nat} {K : KT} {VI : VIT} (h : RW w K VI) : VI w 1 = nI (lmK K) := h.2.1
set_option maxRecDepth 20000 in
theorem RW.rn {w : Nat} {K : KT} {VI : VIT} (h : RW w K VI) : VI w 5 = nI (K 94) := h.2.2.1
set_option maxRecDepth 20000 in
theorem RW.dm {w : Nat} {K : KT} {VI : VIT} (h : RW w K VI) : VI w 6 = nI (dmK K) := h.2.2.2.1
set_option maxRecDepth 20000 in
theorem RW.tn {w : Nat} {K : KT} {VI : VIT} (h : RW w K VI) : VI w 9 = nI (K 95) := h.2.2.2.2.1
set_option maxRecDepth 20000 in
theorem RW.ln {w : Nat} {K : KT} {VI : VIT} (h : RW w K VI) : VI w 14 = nI (K 96) := h.2.2.2.2.2.1
set_option maxRecDepth 20000 in
theorem RW.fo {w : Nat} {K : KT} {VI : VIT} (h : RW w K VI) : VI w 15 = nI (K 97) - 1 := h.2.2.2.2.2.2.1
set_option maxRecDepth 20000 in
theorem RW.firm {w : Nat} {K : KT} {VI : VIT} (h : RW w K VI) {p : Nat} (hp : p < K 93) : VI (w + 1) p = nI (K (39 + p)) := (h.2.2.2.2.2.2.2.1 p hp).1
set_option maxRecDepth 20000 in
theorem RW.age {w : Nat} {K : KT} {VI : VIT} (h : RW w K VI) {p : Nat} (hp : p < K 93) : VI (w + 2) p = nI (K (45 + p)) := (h.2.2.2.2.2.2.2.1 p hp).2
set_option maxRecDepth 20000 in
theorem RW.mark {w : Nat} {K : KT} {VI : VIT} (h : RW w K VI) {p q : Nat} (hp : p < K 93) (hq : q < 4) : VI (w + 3) (p * 4 + q) = nI (K (4 * p + q)) := h.2.2.2.2.2.2.2.2.1 p q hp hq
set_option maxRecDepth 20000 in
theorem RW.rday {w : Nat} {K : KT} {VI : VIT} (h : RW w K VI) {r : Nat} (hr : r < K 94) : VI (w + 4) r = nI (K (51 + r)) := (h.2.2.2.2.2.2.2.2.2.1 r hr).1
set_option maxRecDepth 20000 in
theorem RW.ron {w : Nat} {K : KT} {VI : VIT} (h : RW w K VI) {r : Nat} (hr : r < K 94) : VI (w + 5) r = nI (K (59 + r)) := (h.2.2.2.2.2.2.2.2.2.1 r hr).2
set_option maxRecDepth 20000 in
theorem RW.t0 {w : Nat} {K : KT} {VI : VIT} (h : RW w K VI) : VI (w + 9) 0 = nI (K 38) := h.2.2.2.2.2.2.2.2.2.2.2.1
set_option maxRecDepth 20000 in
theorem RW.t1 {w : Nat} {K : KT} {VI : VIT} (h : RW w K VI) : VI (w + 9) 1 = nI (K 91) := h.2.2.2.2.2.2.2.2.2.2.2.2.1
set_option maxRecDepth 20000 in
theorem RW.t2 {w : Nat} {K : KT} {VI : VIT} (h : RW w K VI) : VI (w + 9) 2 = nI (K 92) := h.2.2.2.2.2.2.2.2.2.2.2.2.2
set_option maxRecDepth 20000 in
theorem WF.life {K : KT} (h : WF K) {p : Nat} (hp : p < K 93) : K (24 + p) ≤ 1 := (h.2.2.2.2.2.2.2.2.1 p hp).1
set_option maxRecDepth 20000 in
theorem WF.mark {K : KT} (h : WF K) {p q : Nat} (hp : p < K 93) (hq : q < 4) : K (4 * p + q) < 4 := h.2.2.2.2.2.2.2.2.2.1 p q hp hq
set_option maxRecDepth 20000 in
theorem WF.roll {K : KT} (h : WF K) {r : Nat} (hr : r < K 94) : K (30 + r) ≤ 1 ∧ K (51 + r) < 4 ∧ 0 < K (59 + r) ∧ K (59 + r) < 2 ^ K 93 := h.2.2.2.2.2.2.2.2.2.2.1 r hr
set_option maxRecDepth 20000 in
theorem RK.at {f : Nat → Int32} {K : KT} (h : RK f K) (i : Nat) (hi : i < 5705 := by omega) (hn : i ≠ 97 := by omega) : f i = nI (K i) := h.1 i hi hn
/-- how many ones a mask has -/
def popN (m : Nat) : Nat → Nat
  | 0 => 0
  | k + 1 => popN m k + m / 2 ^ k % 2
def sumN (f : Nat → Nat) : Nat → Nat
  | 0 => 0
  | k + 1 => sumN f k + f k
set_option maxRecDepth 20000 in
theorem pop_msk {f : Nat → Nat} {n : Nat} (h : ∀ i, i < n → f i ≤ 1) : ∀ k, popN (mskN f n) k = sumN f (min k n)
  | 0 => by simp [popN, sumN]
  | k + 1 => by
    have ih := pop_msk h k
    simp only [popN, ih]
    by_cases hk : k < n
    · have hb := mskN_bit h k hk
      have h1 := h k hk
      rw [Nat.testBit_eq_decide_div_mod_eq] at hb
      rw [show min (k + 1) n = min k n + 1 by omega, show min k n = k by omega]
      simp only [sumN, Nat.add_left_cancel_iff]
      have := decide_eq_decide.mp hb
      omega
    · rw [show min (k + 1) n = min k n by omega]
      have hlt := mskN_lt h
      have h3 : 2 ^ n ≤ 2 ^ k := Nat.pow_le_pow_right (by omega) (by omega)
      rw [Nat.div_eq_of_lt (by omega)]; rfl
set_option maxRecDepth 20000 in
theorem mskN_or {f : Nat → Nat} {i : Nat} (h : ∀ p, p < i → f p ≤ 1) (hi : f i ≤ 1) : mskN f i ||| f i * 2 ^ i = mskN f (i + 1) := by
  have hlt := mskN_lt h
  simp only [mskN]
  rcases (show f i = 0 ∨ f i = 1 by omega) with q | q
  · rw [q, Nat.zero_mul]; simp
  · have e := Nat.two_pow_add_eq_or_of_lt hlt 1
    rw [Nat.mul_one] at e
    rw [q, Nat.one_mul, Nat.or_comm, ← e, Nat.add_comm]
