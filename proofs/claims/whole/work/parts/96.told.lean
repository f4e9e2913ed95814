/-! ===== what is heard is what is told ===== -/
set_option maxRecDepth 20000 in
theorem clp_bd {v hi : Int} (h : 0 ≤ hi) : 0 ≤ clp v hi ∧ clp v hi ≤ hi := by
  unfold clp
  split
  · omega
  · split <;> omega
set_option maxRecDepth 20000 in
theorem tS_skip {hd : Nat} {hi w : Int} {e : Env} {c : Cla} (h : ¬ (c.1 + 1 = hd ∧ (c.2.2.2.2.2.1 = 0 ∨ soB (c.2.2.2.2.2.2 e) = true))) : tS hd hi e w c = w := if_neg h
set_option maxRecDepth 20000 in
theorem tS_hit {hd : Nat} {hi w : Int} {e : Env} {c : Cla} (h : c.1 + 1 = hd) (s : c.2.2.2.2.2.1 = 0 ∨ soB (c.2.2.2.2.2.2 e) = true) (k : ¬ c.1 = 2) : tS hd hi e w c = (c.2.2.1 e).elim w (fun v => clp v hi) := by
  unfold tS
  rw [if_pos (⟨h, s⟩ : c.1 + 1 = hd ∧ (c.2.2.2.2.2.1 = 0 ∨ soB (c.2.2.2.2.2.2 e) = true)), if_neg k]
set_option maxRecDepth 20000 in
theorem tS_bar {hi w : Int} {e : Env} {c : Cla} (s : c.2.2.2.2.2.1 = 0 ∨ soB (c.2.2.2.2.2.2 e) = true) (k : c.1 = 2) : tS 3 hi e w c = clp 1 hi := by
  unfold tS
  rw [if_pos (⟨by omega, s⟩ : c.1 + 1 = 3 ∧ (c.2.2.2.2.2.1 = 0 ∨ soB (c.2.2.2.2.2.2 e) = true)), if_pos k]
set_option maxRecDepth 20000 in
theorem hS_no {e : Env} {r : HRs} {c : Cla} (s : ¬ (c.2.2.2.2.2.1 = 0 ∨ soB (c.2.2.2.2.2.2 e) = true)) : hS e r c = r := if_neg s
set_option maxRecDepth 20000 in
theorem hS_bar {e : Env} {r : HRs} {c : Cla} (s : c.2.2.2.2.2.1 = 0 ∨ soB (c.2.2.2.2.2.2 e) = true) (k : c.1 = 2) : hS e r c = (r.1, r.2.1, 1) := by
  unfold hS
  rw [if_pos s, if_pos k]
set_option maxRecDepth 20000 in
theorem hS_none {e : Env} {r : HRs} {c : Cla} (s : c.2.2.2.2.2.1 = 0 ∨ soB (c.2.2.2.2.2.2 e) = true) (k : ¬ c.1 = 2) (hx : c.2.2.1 e = none) : hS e r c = r := by
  unfold hS
  rw [if_pos s, if_neg k, hx]
  rfl
set_option maxRecDepth 20000 in
theorem hS_some {e : Env} {r : HRs} {c : Cla} {v : Int} (s : c.2.2.2.2.2.1 = 0 ∨ soB (c.2.2.2.2.2.2 e) = true) (k : ¬ c.1 = 2) (hx : c.2.2.1 e = some v) : hS e r c = if c.1 = 0 then (clp v 3, r.2.1, r.2.2) else (r.1, clp v 9, r.2.2) := by
  unfold hS
  rw [if_pos s, if_neg k, hx]
  rfl
set_option maxRecDepth 20000 in
theorem hS_all {e : Env} {r : HRs} {c : Cla} (hk : c.1 ≤ 2) : (hS e r c).2.1 = tS 2 9 e r.2.1 c ∧ (((hS e r c).2.2 : Nat) : Int) = tS 3 1 e (r.2.2 : Int) c ∧ ∀ w : Int, (if (hS e r c).1 = -1 then w else (hS e r c).1) = tS 1 3 e (if r.1 = -1 then w else r.1) c := by
  by_cases s : c.2.2.2.2.2.1 = 0 ∨ soB (c.2.2.2.2.2.2 e) = true
  · rcases (show c.1 = 0 ∨ c.1 = 1 ∨ c.1 = 2 by omega) with k | k | k
    · rw [tS_skip (hd := 2) (fun z => by have := z.1; omega), tS_skip (hd := 3) (fun z => by have := z.1; omega)]
      cases hx : c.2.2.1 e with
      | none =>
        rw [hS_none s (by omega) hx]
        refine ⟨rfl, rfl, fun w => ?_⟩
        rw [tS_hit (hd := 1) (by omega) s (by omega), hx]
        rfl
      | some v =>
        have hb := clp_bd (v := v) (hi := 3) (by omega)
        rw [hS_some s (by omega) hx, if_pos k]
        refine ⟨rfl, rfl, fun w => ?_⟩
        rw [tS_hit (hd := 1) (by omega) s (by omega), hx]
        show (if clp v 3 = -1 then w else clp v 3) = clp v 3
        rw [if_neg (by omega)]
    · rw [tS_hit (hd := 2) (by omega) s (by omega), tS_skip (hd := 3) (fun z => by have := z.1; omega)]
      cases hx : c.2.2.1 e with
      | none =>
        rw [hS_none s (by omega) hx]
        refine ⟨rfl, rfl, fun w => ?_⟩
        rw [tS_skip (hd := 1) (fun z => by have := z.1; omega)]
      | some v =>
        rw [hS_some s (by omega) hx, if_neg (by omega)]
        refine ⟨rfl, rfl, fun w => ?_⟩
        rw [tS_skip (hd := 1) (fun z => by have := z.1; omega)]
    · rw [tS_skip (hd := 2) (fun z => by have := z.1; omega), tS_bar s k, hS_bar s k]
      refine ⟨rfl, rfl, fun w => ?_⟩
      rw [tS_skip (hd := 1) (fun z => by have := z.1; omega)]
  · rw [hS_no s, tS_skip (hd := 2) (fun z => s z.2), tS_skip (hd := 3) (fun z => s z.2)]
    refine ⟨rfl, rfl, fun w => ?_⟩
    rw [tS_skip (hd := 1) (fun z => s z.2)]
set_option maxRecDepth 20000 in
theorem hS_fold {e : Env} : ∀ (cl : List Cla) (r : HRs), (∀ c, c ∈ cl → c.1 ≤ 2) → (cl.foldl (hS e) r).2.1 = cl.foldl (tS 2 9 e) r.2.1 ∧ (((cl.foldl (hS e) r).2.2 : Nat) : Int) = cl.foldl (tS 3 1 e) (r.2.2 : Int) ∧ ∀ w : Int, (if (cl.foldl (hS e) r).1 = -1 then w else (cl.foldl (hS e) r).1) = cl.foldl (tS 1 3 e) (if r.1 = -1 then w else r.1)
  | [], r, _ => ⟨rfl, rfl, fun _ => rfl⟩
  | c :: cl, r, h => by
    obtain ⟨a1, a2, a3⟩ := hS_all (e := e) (r := r) (h c List.mem_cons_self)
    obtain ⟨b1, b2, b3⟩ := hS_fold (e := e) cl (hS e r c) (fun c' hc => h c' (List.mem_cons_of_mem _ hc))
    refine ⟨?_, ?_, fun w => ?_⟩
    · rw [List.foldl_cons, List.foldl_cons, b1, a1]
    · rw [List.foldl_cons, List.foldl_cons, b2, a2]
    · rw [List.foldl_cons, List.foldl_cons, b3 w, a3 w]
set_option maxRecDepth 20000 in
theorem tS_bd {hd : Nat} {hi M : Int} {e : Env} (h0 : 0 ≤ hi) (h1 : hi ≤ M) : ∀ (cl : List Cla) (w : Int), 0 ≤ w → w ≤ M → 0 ≤ cl.foldl (tS hd hi e) w ∧ cl.foldl (tS hd hi e) w ≤ M
  | [], w, a, b => ⟨a, b⟩
  | c :: cl, w, a, b => by
    have hs : 0 ≤ tS hd hi e w c ∧ tS hd hi e w c ≤ M := by
      unfold tS
      split
      · split
        · have := clp_bd (v := 1) h0; omega
        · cases c.2.2.1 e with
          | none => exact ⟨a, b⟩
          | some v => have := clp_bd (v := v) h0; exact ⟨this.1, by show clp v hi ≤ M; omega⟩
      · exact ⟨a, b⟩
    rw [List.foldl_cons]
    exact tS_bd h0 h1 cl _ hs.1 hs.2
def tellsR (K : KT) (hd : Nat) (hi w : Int) (p q dy m1 m2 wk : Nat) : Int := if K 97 = 0 then w else (kcl K (K 97 - 1)).2.2.foldl (tS hd hi (lawE K p q dy m1 m2 wk)) w
def swN (K : KT) (p q dy m1 m2 wk : Nat) : Nat := (tellsR K 2 9 (K (39 + p) : Int) p q dy m1 m2 wk).toNat
def brN (K : KT) (p q dy m1 m2 wk : Nat) : Nat := (tellsR K 3 1 0 p q dy m1 m2 wk).toNat
def tkN (K : KT) (p q dy m1 m2 wk w : Nat) : Nat := (tellsR K 1 3 (w : Int) p q dy m1 m2 wk).toNat
/-- the mark that prevails -/
def prv (K : KT) (p q dy m1 m2 wk : Nat) : Nat := if swN K p q dy m1 m2 wk < swN K q p dy m2 m1 wk ∨ (swN K q p dy m2 m1 wk = swN K p q dy m1 m2 wk ∧ p < q) then m2 else m1
def outK (K : KT) (p q dy m1 m2 wk : Nat) : Option Nat := if brN K p q dy m1 m2 wk = 1 ∨ brN K q p dy m2 m1 wk = 1 then none else some (tkN K p q dy m1 m2 wk (prv K p q dy m1 m2 wk) * 4 + tkN K q p dy m2 m1 wk (prv K p q dy m1 m2 wk))
set_option maxRecDepth 20000 in
theorem tellsR_bd {K : KT} {hd : Nat} {hi w M : Int} {p q dy m1 m2 wk : Nat} (h0 : 0 ≤ hi) (h1 : hi ≤ M) (hw0 : 0 ≤ w) (hw1 : w ≤ M) : 0 ≤ tellsR K hd hi w p q dy m1 m2 wk ∧ tellsR K hd hi w p q dy m1 m2 wk ≤ M := by
  unfold tellsR
  split
  · exact ⟨hw0, hw1⟩
  · exact tS_bd h0 h1 _ _ hw0 hw1
set_option maxRecDepth 20000 in
theorem swN_lt {K : KT} (hW : WF K) {p q dy m1 m2 wk : Nat} (hp : p < K 93) : swN K p q dy m1 m2 wk ≤ 9 := by
  have h9 : K (39 + p) ≤ 9 := (hW.2.2.2.2.2.2.2.2.1 p hp).2.1
  have := tellsR_bd (K := K) (hd := 2) (hi := 9) (w := (K (39 + p) : Int)) (M := 9) (p := p) (q := q) (dy := dy) (m1 := m1) (m2 := m2) (wk := wk) (by omega) (by omega) (by omega) (by omega)
  unfold swN
  omega
set_option maxRecDepth 20000 in
theorem brN_lt {K : KT} {p q dy m1 m2 wk : Nat} : brN K p q dy m1 m2 wk ≤ 1 := by
  have := tellsR_bd (K := K) (hd := 3) (hi := 1) (w := 0) (M := 1) (p := p) (q := q) (dy := dy) (m1 := m1) (m2 := m2) (wk := wk) (by omega) (by omega) (by omega) (by omega)
  unfold brN
  omega
set_option maxRecDepth 20000 in
theorem tkN_lt {K : KT} {p q dy m1 m2 wk w : Nat} (hw : w ≤ 3) : tkN K p q dy m1 m2 wk w ≤ 3 := by
  have := tellsR_bd (K := K) (hd := 1) (hi := 3) (w := (w : Int)) (M := 3) (p := p) (q := q) (dy := dy) (m1 := m1) (m2 := m2) (wk := wk) (by omega) (by omega) (by omega) (by omega)
  unfold tkN
  omega
set_option maxRecDepth 20000 in
theorem prv_lt {K : KT} {p q dy m1 m2 wk : Nat} (h1 : m1 < 4) (h2 : m2 < 4) : prv K p q dy m1 m2 wk ≤ 3 := by
  unfold prv
  split <;> omega
set_option maxRecDepth 20000 in
theorem outK_lt {K : KT} {p q dy m1 m2 wk c : Nat} (h1 : m1 < 4) (h2 : m2 < 4) (h : outK K p q dy m1 m2 wk = some c) : c < 16 := by
  unfold outK at h
  split at h
  · cases h
  · have a1 := tkN_lt (K := K) (p := p) (q := q) (dy := dy) (m1 := m1) (m2 := m2) (wk := wk) (prv_lt (K := K) (p := p) (q := q) (dy := dy) (wk := wk) h1 h2)
    have a2 := tkN_lt (K := K) (p := q) (q := p) (dy := dy) (m1 := m2) (m2 := m1) (wk := wk) (prv_lt (K := K) (p := p) (q := q) (dy := dy) (wk := wk) h1 h2)
    have := Option.some.inj h
    omega
-- the same law, the same answers
set_option maxRecDepth 20000 in
theorem tellsR_congr {K K' : KT} {hd : Nat} {hi w : Int} {p q dy m1 m2 wk : Nat} (h97 : K' 97 = K 97) (h92 : K' 92 = K 92) (h39 : K' (39 + p) = K (39 + p)) (h45 : K' (45 + p) = K (45 + p)) (hk : kcl K' (K 97 - 1) = kcl K (K 97 - 1)) : tellsR K' hd hi w p q dy m1 m2 wk = tellsR K hd hi w p q dy m1 m2 wk := by
  have e : lawE K' p q dy m1 m2 wk = lawE K p q dy m1 m2 wk := by
    funext x
    unfold lawE
    rw [h92, h39, h45]
  unfold tellsR
  rw [h97, hk, e]
set_option maxRecDepth 20000 in
theorem kcl_congr {K K' : KT} {t : Nat} (h : ∀ i, 98 ≤ i → K' i = K i) : kcl K' t = kcl K t := by
  have e1 : ktc K' t = ktc K t := by
    funext k
    unfold ktc
    rw [h _ (by omega), h _ (by omega)]
  have e2 : ktv K' t = ktv K t := by
    funext k
    unfold ktv
    rw [h _ (by omega), h _ (by omega)]
  unfold kcl
  rw [e1, e2, h _ (by omega)]
set_option maxRecDepth 20000 in
theorem outK_congr {K K' : KT} {p q dy m1 m2 wk : Nat} (h : ∀ i, 39 ≤ i → K' i = K i) : outK K' p q dy m1 m2 wk = outK K p q dy m1 m2 wk := by
  have hc : ∀ (hd : Nat) (hi w : Int) (p q m1 m2 : Nat), tellsR K' hd hi w p q dy m1 m2 wk = tellsR K hd hi w p q dy m1 m2 wk := fun hd hi w p q m1 m2 => tellsR_congr (h _ (by omega)) (h _ (by omega)) (h _ (by omega)) (h _ (by omega)) (kcl_congr (fun i hi => h i (by omega)))
  unfold outK prv swN brN tkN
  simp only [hc, h (39 + p) (by omega), h (39 + q) (by omega)]
/-! tokens of a law that can be read -/
set_option maxRecDepth 20000 in
theorem pIf_ok {o : Bool} {tc tv : Nat → Nat} {n i p kd tm : Nat} {x y z : Den} (h0 : ∀ j, n ≤ j → tc j = 0) (hi : i ≤ n) (h : (pIf o tc tv i p kd tm x y z).1 = 1) : i ≤ (pIf o tc tv i p kd tm x y z).2.1 ∧ (pIf o tc tv i p kd tm x y z).2.1 ≤ n ∧ ∀ j, i ≤ j → j < (pIf o tc tv i p kd tm x y z).2.1 → tc j < 200 := by
  by_cases c : tc i = 4
  · have hin : i < n := Nat.lt_of_not_le (fun q => by have := h0 i q; omega)
    have e : pIf o tc tv i p kd tm x y z = if (pTest o tc tv (i + 1) p).1 = 1 then (1, (pTest o tc tv (i + 1) p).2.1, (pTest o tc tv (i + 1) p).2.2.1, kd, tm, x, y, z, 1, (pTest o tc tv (i + 1) p).2.2.2) else ((pTest o tc tv (i + 1) p).1, (pTest o tc tv (i + 1) p).2.1, (pTest o tc tv (i + 1) p).2.2.1, kd, tm, x, y, z, 1, dz) := if_pos c
    by_cases ct : (pTest o tc tv (i + 1) p).1 = 1
    · rw [e, if_pos ct]
      exact ((prs_ok (o := o) (tv := tv) h0 PFuel 0 0 (i + 1) p dz hin).tok (by omega)) ct
    · rw [e, if_neg ct] at h
      exact absurd h ct
  · have e : pIf o tc tv i p kd tm x y z = (1, i, p, kd, tm, x, y, z, 0, dz) := if_neg c
    rw [e]
    exact ⟨Nat.le_refl _, hi, fun j a b => absurd b (Nat.not_lt.mpr a)⟩
set_option maxRecDepth 20000 in
theorem pLawC_ok {tc tv : Nat → Nat} {n i p : Nat} (h0 : ∀ j, n ≤ j → tc j = 0) (h : (pLawC tc tv i p).1 = 1) : i < (pLawC tc tv i p).2.1 ∧ (pLawC tc tv i p).2.1 ≤ n ∧ ∀ j, i ≤ j → j < (pLawC tc tv i p).2.1 → tc j < 200 := by
  by_cases c1 : tc i = 1 ∨ tc i = 2
  · have hin : i < n := Nat.lt_of_not_le (fun q => by have := h0 i q; omega)
    have ep : pLawC tc tv i p = if (pSum false tc tv (i + 1) p).1 = 1 then pIf false tc tv (pSum false tc tv (i + 1) p).2.1 (pSum false tc tv (i + 1) p).2.2.1 (tc i - 1) 1 (pSum false tc tv (i + 1) p).2.2.2 dz dz else ((pSum false tc tv (i + 1) p).1, (pSum false tc tv (i + 1) p).2.1, (pSum false tc tv (i + 1) p).2.2.1, 0, 1, dz, dz, dz, 0, dz) := if_pos c1
    by_cases cs : (pSum false tc tv (i + 1) p).1 = 1
    · rw [if_pos cs] at ep
      rw [ep] at h ⊢
      obtain ⟨o1, o2, o3⟩ := (show OKr tc n (i + 1) (pSum false tc tv (i + 1) p) from prs_ok (o := false) (tv := tv) h0 PFuel 5 0 (i + 1) p dz hin) cs
      obtain ⟨q1, q2, q3⟩ := pIf_ok h0 o2 h
      refine ⟨by omega, q2, fun j a b => ?_⟩
      by_cases e1 : j = i
      · rw [e1]; omega
      by_cases e2 : j < (pSum false tc tv (i + 1) p).2.1
      · exact o3 j (by omega) e2
      · exact q3 j (by omega) b
    · rw [if_neg cs] at ep
      rw [ep] at h
      exact absurd h cs
  · by_cases c3 : tc i = 3
    · have hin : i < n := Nat.lt_of_not_le (fun q => by have := h0 i q; omega)
      have ep : pLawC tc tv i p = pIf false tc tv (i + 1) p 2 1 dz dz dz := by
        unfold pLawC
        rw [if_neg c1, if_pos c3]
      rw [ep] at h ⊢
      obtain ⟨q1, q2, q3⟩ := pIf_ok h0 (show i + 1 ≤ n from hin) h
      refine ⟨by omega, q2, fun j a b => ?_⟩
      by_cases e1 : j = i
      · rw [e1]; omega
      · exact q3 j (by omega) b
    · have ep : (pLawC tc tv i p).1 = 0 := by
        unfold pLawC
        rw [if_neg c1, if_neg c3]
      rw [ep] at h
      exact absurd h (by omega)
set_option maxRecDepth 20000 in
theorem pTxt_ok {tc tv : Nat → Nat} {n : Nat} (h0 : ∀ j, n ≤ j → tc j = 0) : ∀ m i p, (pTxt false tc tv n m i p).1 = 1 → ∀ j, i ≤ j → j < n → tc j < 200
  | 0, i, p, h => absurd h (by show ¬ 0 = 1; omega)
  | m + 1, i, p, h => by
    have et : pTxt false tc tv n (m + 1) i p = (if (pLawC tc tv i p).1 = 1 then (if (pLawC tc tv i p).2.1 = n then (1, n, [(pLawC tc tv i p).2.2.2]) else if tc (pLawC tc tv i p).2.1 = 159 then ((pTxt false tc tv n m ((pLawC tc tv i p).2.1 + 1) (pLawC tc tv i p).2.2.1).1, (pTxt false tc tv n m ((pLawC tc tv i p).2.1 + 1) (pLawC tc tv i p).2.2.1).2.1, (pLawC tc tv i p).2.2.2 :: (pTxt false tc tv n m ((pLawC tc tv i p).2.1 + 1) (pLawC tc tv i p).2.2.1).2.2) else (0, (pLawC tc tv i p).2.1, [])) else ((pLawC tc tv i p).1, (pLawC tc tv i p).2.1, [])) := rfl
    rw [et] at h
    by_cases c1 : (pLawC tc tv i p).1 = 1
    · rw [if_pos c1] at h
      obtain ⟨q1, q2, q3⟩ := pLawC_ok h0 c1
      intro j a b
      by_cases e1 : j < (pLawC tc tv i p).2.1
      · exact q3 j a e1
      by_cases c2 : (pLawC tc tv i p).2.1 = n
      · omega
      · rw [if_neg c2] at h
        by_cases c3 : tc (pLawC tc tv i p).2.1 = 159
        · rw [if_pos c3] at h
          by_cases e2 : j = (pLawC tc tv i p).2.1
          · rw [e2]; omega
          · exact pTxt_ok h0 m _ _ h j (by omega) b
        · rw [if_neg c3] at h
          exact absurd h (by show ¬ 0 = 1; omega)
    · rw [if_neg c1] at h
      exact absurd h c1
