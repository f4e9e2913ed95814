/-! ===== orders, by themselves ===== -/
/-- the row, how many deeds can be undone, the rows ahead of them, their log; how many orders ran, the latest talk's answer -/
abbrev OS : Type := KT × Nat × (Nat → KT) × (Nat → Nat) × Nat × Int
def envO (K : KT) (ran : Nat) (lat : Int) : Env := fun w =>
  if w = 16 then (K 38 : Int) else if w = 17 then (ran : Int) else if w = 18 then lat else if w = 19 then (popN (lmK K) 8 : Int)
  else if 200 ≤ w then (if w - 200 < K 94 then (if agK K (w - 200) = none then 0 else 1) else -1)
  else if (w - 100) / 4 < K 93 then (K (w - 100) : Int) else -1
def tlkG (K : KT) (p q dy : Nat) : Nat := (((dy * 8 + p) * 8 + q) * 16 + ((K (4 * p + dy)) * 4 + (K (4 * q + dy)))) * 4 + 0
/-- a deed: the row behind it, its row in the log, its answer -/
def deedA (kd : Nat) (K : KT) (a b c : Int) : Option (KT × Nat × Nat) :=
  if kd = 0 then
    (if 0 ≤ a ∧ a < K 93 ∧ 0 ≤ b ∧ b < K 93 ∧ a ≠ b ∧ 0 ≤ c ∧ c < 4 ∧ K (24 + a.toNat) = 1 ∧ K (24 + b.toNat) = 1 then
      (outK K a.toNat b.toNat c.toNat (K (4 * a.toNat + c.toNat)) (K (4 * b.toNat + c.toNat)) (K 38)).map (fun o => (tkK K a.toNat b.toNat c.toNat o, tlkG K a.toNat b.toNat c.toNat, chgN (K (4 * a.toNat + c.toNat) * 4 + K (4 * b.toNat + c.toNat)) o))
    else none)
  else if kd = 1 then (if 0 ≤ a ∧ a < K 94 ∧ K (30 + a.toNat) = 0 then (agK K a.toNat).map (fun o => (ku K (30 + a.toNat) 1, a.toNat * 4 + 1, z100 o)) else none)
  else if kd = 2 then (if 0 ≤ a ∧ a < K 93 ∧ K (24 + a.toNat) = 1 then some (ku K (24 + a.toNat) 0, a.toNat * 4 + 2, popN (lmK (ku K (24 + a.toNat) 0)) 8) else none)
  else if K 38 < 999 then some (ku K 38 (K 38 + 1), 0 * 4 + 3, K 38 + 1) else none
def sO (u : Nat) : Nat := if u < 16 then 0 else 1
def vO (u : Nat) : Nat := if u < 16 then u else 15
set_option maxRecDepth 20000 in
theorem nxtSV {u : Nat} (h : u ≤ 16) : Nxt u (sO u) (vO u) := by
  unfold Nxt sO vO
  by_cases c : u < 16
  · rw [if_pos c, if_pos c]; exact Or.inl ⟨c, rfl, rfl⟩
  · rw [if_neg c, if_neg c]; exact Or.inr ⟨by omega, rfl, rfl⟩
def nxtO (kd : Nat) (s : OS) (q : KT × Nat × Nat) : OS := (q.1, vO s.2.1 + 1, US1 s.2.2.1 (sO s.2.1) (vO s.2.1) q.1, lg1 s.2.2.2.1 (sO s.2.1) (vO s.2.1) q.2.1, s.2.2.2.2.1 + 1, if kd = 0 then (q.2.2 : Int) else s.2.2.2.2.2)
abbrev eO (s : OS) : Env := envO s.1 s.2.2.2.2.1 s.2.2.2.2.2
def xO (c : Cla) (e : Env) : Option Int := if c.1 = 3 then some 0 else c.2.2.1 e
def yO (c : Cla) (e : Env) : Option Int := if c.1 = 0 then c.2.2.2.1 e else some 0
def zO (c : Cla) (e : Env) : Option Int := if c.1 = 0 then c.2.2.2.2.1 e else some 0
/-- whether a clause's test lets it be -/
def offO (c : Cla) (e : Env) : Prop := c.2.2.2.2.2.1 = 1 ∧ soB (c.2.2.2.2.2.2 e) = false
/-- a clause's deed, once -/
def actO (c : Cla) (s : OS) : Option OS := (xO c (eO s)).bind (fun a => (yO c (eO s)).bind (fun b => (zO c (eO s)).bind (fun d => (deedA c.1 s.1 a b d).map (fun q => nxtO c.1 s q))))
noncomputable def oneO (c : Cla) (s : OS) : Option OS := @ite _ (offO c (eO s)) (Classical.propDecidable _) (some s) (actO c s)
set_option maxRecDepth 20000 in
theorem oneO_off {c : Cla} {s : OS} (h : offO c (eO s)) : oneO c s = some s := if_pos h
set_option maxRecDepth 20000 in
theorem oneO_on {c : Cla} {s : OS} (h : ¬ offO c (eO s)) : oneO c s = actO c s := if_neg h
noncomputable def tmO (c : Cla) : Nat → OS → Option OS
  | 0, s => some s
  | m + 1, s => (oneO c s).bind (tmO c m)
noncomputable def lsO : List Cla → Nat → OS → OS ⊕ Nat
  | [], _, s => .inl s
  | c :: r, i, s => (tmO c c.2.1 s).elim (.inr i) (fun s' => lsO r (i + 1) s')
def okO (s : OS) : Prop := WF s.1 ∧ s.2.1 ≤ 16 ∧ (∀ k, k < 39 → s.2.2.1 s.2.1 k = s.1 k) ∧ (∀ i, i < s.2.1 → s.2.2.2.1 i < 65536 ∧ Undoes (s.1 93) (s.1 94) (s.2.2.2.1 i) (s.2.2.1 (i + 1)) (s.2.2.1 i)) ∧ -1 ≤ s.2.2.2.2.2 ∧ s.2.2.2.2.2 ≤ 1000
set_option maxRecDepth 20000 in
theorem popN_le (m : Nat) : ∀ k, popN m k ≤ k
  | 0 => Nat.le_refl _
  | k + 1 => by
    have := popN_le m k
    simp only [popN]
    omega
set_option maxRecDepth 20000 in
theorem pop_86 {K : KT} (h : WF K) : popN (lmK K) 8 = popN (lmK K) 6 := by
  have h6 := h.n
  rw [pop_msk (fun i hi => h.life hi), pop_msk (fun i hi => h.life hi), show min 8 (K 93) = min 6 (K 93) by omega]
set_option maxRecDepth 20000 in
theorem tlkG_lt {K : KT} {p q dy : Nat} (hW : WF K) (hp : p < K 93) (hq : q < K 93) (hd4 : dy < 4) : tlkG K p q dy < 65536 ∧ tlkG K p q dy % 4 = 0 := by
  have h6 := hW.n
  have m1 := hW.mark hp hd4
  have m2 := hW.mark hq hd4
  unfold tlkG
  omega
set_option maxRecDepth 20000 in
theorem deedA_ok {kd : Nat} {K K' : KT} {a b c : Int} {g r : Nat} (hW : WF K) (h : deedA kd K a b c = some (K', g, r)) : WF K' ∧ g < 65536 ∧ Undoes (K 93) (K 94) g K' K ∧ (∀ i, 39 ≤ i → K' i = K i) ∧ r ≤ 1000 := by
  have h6 := hW.n
  have h8 : K 94 ≤ 8 := hW.2.1
  unfold deedA at h
  by_cases c0 : kd = 0
  · rw [if_pos c0] at h
    split at h
    · rename_i hc
      obtain ⟨a1, a2, b1, b2, hab, d1, d2, l1, l2⟩ := hc
      obtain ⟨p, rfl⟩ : ∃ p : Nat, a = (p : Int) := ⟨a.toNat, by omega⟩
      obtain ⟨q, rfl⟩ : ∃ q : Nat, b = (q : Int) := ⟨b.toNat, by omega⟩
      obtain ⟨dy, rfl⟩ : ∃ dy : Nat, c = (dy : Int) := ⟨c.toNat, by omega⟩
      simp only [Int.toNat_natCast] at h l1 l2
      have hp : p < K 93 := by omega
      have hq : q < K 93 := by omega
      have hpq : p ≠ q := by omega
      have hd4 : dy < 4 := by omega
      cases ho : outK K p q dy (K (4 * p + dy)) (K (4 * q + dy)) (K 38) with
      | none => rw [ho] at h; cases h
      | some o =>
        rw [ho] at h
        simp only [Option.map_some, Option.some.injEq, Prod.mk.injEq] at h
        obtain ⟨e1, e2, e3⟩ := h
        have hc16 := outK_lt (hW.mark hp hd4) (hW.mark hq hd4) ho
        subst e1 e2 e3
        have := chgN_le (mk := (K (4 * p + dy)) * 4 + (K (4 * q + dy))) (c := o)
        exact ⟨tkK_WF hW hp hq hd4 hc16, (tlkG_lt hW hp hq hd4).1, tkK_un hW hp hq hpq hd4, fun i hi => tkK_ge hW hp hq hd4 i (by omega), by omega⟩
    · cases h
  rw [if_neg c0] at h
  by_cases c1 : kd = 1
  · rw [if_pos c1] at h
    split at h
    · rename_i hc
      obtain ⟨a1, a2, hz⟩ := hc
      obtain ⟨r0, rfl⟩ : ∃ p : Nat, a = (p : Int) := ⟨a.toNat, by omega⟩
      simp only [Int.toNat_natCast] at h hz
      have hr : r0 < K 94 := by omega
      cases ho : agK K r0 with
      | none => rw [ho] at h; cases h
      | some o =>
        rw [ho] at h
        simp only [Option.map_some, Option.some.injEq, Prod.mk.injEq] at h
        obtain ⟨e1, e2, e3⟩ := h
        subst e1 e2 e3
        have hl := agK_lt100 hW hr (z100 o) (by rw [ho]; rfl)
        refine ⟨hW.bits (fun i _ hi => ku_ne (by omega)) (fun p hp => by rw [ku_ne (by omega)]; exact hW.life hp) (fun q hq => by unfold ku; split <;> first | omega | exact (hW.roll hq).1), by omega, ?_, fun i hi => ku_ne (by omega), by omega⟩
        have e : (r0 * 4 + 1) / 4 = r0 := by omega
        refine Or.inr (Or.inl ⟨by omega, by rw [e]; exact hr, by rw [e, ku_same], by rw [e]; exact hz, fun k hk h2 => (ku_ne (by rw [e] at h2; exact h2)).symm⟩)
    · cases h
  rw [if_neg c1] at h
  by_cases c2 : kd = 2
  · rw [if_pos c2] at h
    split at h
    · rename_i hc
      obtain ⟨a1, a2, hz⟩ := hc
      obtain ⟨r0, rfl⟩ : ∃ p : Nat, a = (p : Int) := ⟨a.toNat, by omega⟩
      simp only [Int.toNat_natCast] at h hz
      have hr : r0 < K 93 := by omega
      simp only [Option.some.injEq, Prod.mk.injEq] at h
      obtain ⟨e1, e2, e3⟩ := h
      subst e1 e2 e3
      have := popN_le (lmK (ku K (24 + r0) 0)) 8
      refine ⟨hW.bits (fun i _ hi => ku_ne (by omega)) (fun p hp => by unfold ku; split <;> first | omega | exact hW.life hp) (fun q hq => by rw [ku_ne (by omega)]; exact (hW.roll hq).1), by omega, ?_, fun i hi => ku_ne (by omega), by omega⟩
      have e : (r0 * 4 + 2) / 4 = r0 := by omega
      refine Or.inr (Or.inr (Or.inl ⟨by omega, by rw [e]; exact hr, by rw [e, ku_same], by rw [e]; exact hz, fun k hk h2 => (ku_ne (by rw [e] at h2; exact h2)).symm⟩))
    · cases h
  rw [if_neg c2] at h
  split at h
  · rename_i hz
    simp only [Option.some.injEq, Prod.mk.injEq] at h
    obtain ⟨e1, e2, e3⟩ := h
    subst e1 e2 e3
    refine ⟨hW.keep (fun i _ h2 _ _ => ku_ne h2) (by rw [ku_same]; omega) (by rw [ku_ne (by omega)]; exact hW.2.2.2.2.2.2.1) (by rw [ku_ne (by omega)]; exact hW.2.2.2.2.2.2.2.1), by omega, Or.inr (Or.inr (Or.inr ⟨rfl, ku_same, fun k hk => (ku_ne (by omega)).symm⟩)), fun i hi => ku_ne (by omega), by omega⟩
  · cases h
set_option maxRecDepth 20000 in
theorem nxtO_ok {kd : Nat} {s : OS} {K' : KT} {a b c : Int} {g r : Nat} (h : okO s) (hd : deedA kd s.1 a b c = some (K', g, r)) : okO (nxtO kd s (K', g, r)) ∧ (nxtO kd s (K', g, r)).2.2.2.2.1 = s.2.2.2.2.1 + 1 ∧ ∀ i, 39 ≤ i → (nxtO kd s (K', g, r)).1 i = s.1 i := by
  obtain ⟨K, u, US, lg, ran, lat⟩ := s
  obtain ⟨hW, h16, hU, hch, hl1, hl2⟩ := h
  obtain ⟨w1, w2, w3, w4, w5⟩ := deedA_ok hW hd
  have h6 := hW.n
  have h8 : K 94 ≤ 8 := hW.2.1
  have hn := nxtSV h16
  have hus : vO u + sO u = u ∧ vO u < 16 := by
    dsimp only at hn
    unfold Nxt at hn
    omega
  refine ⟨⟨w1, by show vO u + 1 ≤ 16; omega, fun k hk => ?_, fun i hi => ?_, ?_, ?_⟩, rfl, w4⟩
  · show US1 US (sO u) (vO u) K' (vO u + 1) k = K' k
    unfold US1
    rw [if_pos rfl]
  · change i < vO u + 1 at hi
    show lg1 lg (sO u) (vO u) g i < 65536 ∧ Undoes (K' 93) (K' 94) (lg1 lg (sO u) (vO u) g i) (US1 US (sO u) (vO u) K' (i + 1)) (US1 US (sO u) (vO u) K' i)
    rw [w4 93 (by omega), w4 94 (by omega)]
    by_cases c : i = vO u
    · rw [c]
      unfold lg1 US1
      rw [if_pos rfl, if_pos rfl, if_neg (by omega), hus.1]
      exact ⟨w2, w3.cong h6 h8 (fun _ _ => rfl) (fun k hk => hU k hk)⟩
    · obtain ⟨g1, g2⟩ := hch (i + sO u) (by show i + sO u < u; omega)
      have el : lg1 lg (sO u) (vO u) g i = lg (i + sO u) := if_neg c
      have eu : US1 US (sO u) (vO u) K' i = US (i + sO u) := if_neg (by omega)
      have eu1 : ∀ k, k < 39 → US1 US (sO u) (vO u) K' (i + 1) k = US (i + sO u + 1) k := by
        intro k hk
        unfold US1
        rw [if_neg (by omega), show i + 1 + sO u = i + sO u + 1 by omega]
      rw [el, eu]
      exact ⟨g1, g2.cong h6 h8 eu1 (fun _ _ => rfl)⟩
  · show -1 ≤ (if kd = 0 then (r : Int) else lat)
    split
    · omega
    · exact hl1
  · show (if kd = 0 then (r : Int) else lat) ≤ 1000
    split
    · omega
    · exact hl2
-- what running once comes to, by steps
set_option maxRecDepth 20000 in
theorem actO_cases {c : Cla} {s : OS} : (actO c s = none ∧ (xO c (eO s) = none ∨ yO c (eO s) = none ∨ zO c (eO s) = none)) ∨ ∃ a b d, xO c (eO s) = some a ∧ yO c (eO s) = some b ∧ zO c (eO s) = some d ∧ actO c s = (deedA c.1 s.1 a b d).map (fun q => nxtO c.1 s q) := by
  unfold actO
  cases hx : xO c (eO s) with
  | none => exact Or.inl ⟨rfl, Or.inl rfl⟩
  | some a =>
    cases hy : yO c (eO s) with
    | none => exact Or.inl ⟨rfl, Or.inr (Or.inl rfl)⟩
    | some b =>
      cases hz : zO c (eO s) with
      | none => exact Or.inl ⟨rfl, Or.inr (Or.inr rfl)⟩
      | some d => exact Or.inr ⟨a, b, d, rfl, rfl, rfl, rfl⟩
set_option maxRecDepth 20000 in
theorem oneO_ok {c : Cla} {s s' : OS} (h : okO s) (hd : oneO c s = some s') : okO s' ∧ s'.2.2.2.2.1 ≤ s.2.2.2.2.1 + 1 ∧ ∀ i, 39 ≤ i → s'.1 i = s.1 i := by
  by_cases co : offO c (eO s)
  · rw [oneO_off co] at hd
    cases hd
    exact ⟨h, by omega, fun _ _ => rfl⟩
  · rw [oneO_on co] at hd
    rcases actO_cases (c := c) (s := s) with ⟨q, -⟩ | ⟨a, b, d, -, -, -, q⟩
    · rw [q] at hd; cases hd
    · rw [q] at hd
      cases hq : deedA c.1 s.1 a b d with
      | none => rw [hq] at hd; cases hd
      | some t =>
        rw [hq] at hd
        obtain ⟨K', g, r⟩ := t
        simp only [Option.map_some, Option.some.injEq] at hd
        subst hd
        obtain ⟨h1, h2, h3⟩ := nxtO_ok h hq
        exact ⟨h1, by omega, h3⟩
-- bounds of the words
set_option maxRecDepth 20000 in
theorem envO_bd {K : KT} {ran : Nat} {lat : Int} (hW : WF K) (hr : ran ≤ 100000) (h1 : -1 ≤ lat) (h2 : lat ≤ 1000) (k : Nat) (hk : k < 36) : -1000000000 ≤ envO K ran lat (owm k) ∧ envO K ran lat (owm k) ≤ 1000000000 := by
  have h38 : K 38 ≤ 999 := hW.2.2.2.2.2.1
  have hp := popN_le (lmK K) 8
  have hmk : ∀ i : Nat, i / 4 < K 93 → K i < 4 := fun i hi => by
    have := hW.mark hi (show i % 4 < 4 by omega)
    rw [show 4 * (i / 4) + i % 4 = i by omega] at this
    exact this
  unfold envO
  split
  · omega
  split
  · omega
  split
  · omega
  split
  · omega
  split
  · split
    · split <;> omega
    · omega
  split
  · rename_i hi
    have := hmk _ hi
    omega
  · omega
