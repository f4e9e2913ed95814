/-! ===== what is heard is what is told ===== -/
set_option maxRecDepth 20000 in
theorem clp_bd {v hi : Int} (h : 0 ≤ hi) : 0 ≤ clp v hi ∧ clp v hi ≤ hi := by
  unfold clp
  split
  · omega
  · split <;> omega
set_option maxRecDepth 20000 in
theorem hS_all {e : Env} {r : HRs} {c : Cla} (hk : c.1 ≤ 2) : (hS e r c).2.1 = tS 2 9 e r.2.1 c ∧ (((hS e r c).2.2 : Nat) : Int) = tS 3 1 e (r.2.2 : Int) c ∧ ∀ w : Int, (if (hS e r c).1 = -1 then w else (hS e r c).1) = tS 1 3 e (if r.1 = -1 then w else r.1) c := by
  unfold hS tS
  by_cases s : c.2.2.2.2.2.1 = 0 ∨ soB (c.2.2.2.2.2.2 e) = true
  · rw [if_pos s]
    rcases (show c.1 = 0 ∨ c.1 = 1 ∨ c.1 = 2 by omega) with k | k | k
    · rw [if_neg (show ¬ c.1 = 2 by omega), if_neg (show ¬ (c.1 + 1 = 2 ∧ _) by omega), if_neg (show ¬ (c.1 + 1 = 3 ∧ _) by omega)]
      cases hx : c.2.2.1 e with
      | none =>
        refine ⟨rfl, rfl, fun w => ?_⟩
        rw [if_pos ⟨by omega, s⟩, if_neg (show ¬ c.1 = 2 by omega)]
        rfl
      | some v =>
        have hb := clp_bd (v := v) (hi := 3) (by omega)
        show (if c.1 = 0 then ((clp v 3, r.2.1, r.2.2) : HRs) else (r.1, clp v 9, r.2.2)).2.1 = _ ∧ (((if c.1 = 0 then ((clp v 3, r.2.1, r.2.2) : HRs) else (r.1, clp v 9, r.2.2)).2.2 : Nat) : Int) = _ ∧ ∀ w : Int, (if (if c.1 = 0 then ((clp v 3, r.2.1, r.2.2) : HRs) else (r.1, clp v 9, r.2.2)).1 = -1 then w else (if c.1 = 0 then ((clp v 3, r.2.1, r.2.2) : HRs) else (r.1, clp v 9, r.2.2)).1) = _
        rw [if_pos k]
        refine ⟨rfl, rfl, fun w => ?_⟩
        rw [if_pos ⟨by omega, s⟩, if_neg (show ¬ c.1 = 2 by omega)]
        show (if clp v 3 = -1 then w else clp v 3) = clp v 3
        rw [if_neg (by omega)]
    · rw [if_neg (show ¬ c.1 = 2 by omega), if_pos (show c.1 + 1 = 2 ∧ _ from ⟨by omega, s⟩), if_neg (show ¬ c.1 = 2 by omega), if_neg (show ¬ (c.1 + 1 = 3 ∧ _) by omega)]
      cases hx : c.2.2.1 e with
      | none =>
        refine ⟨rfl, rfl, fun w => ?_⟩
        rw [if_neg (show ¬ (c.1 + 1 = 1 ∧ _) by omega)]
        rfl
      | some v =>
        show (if c.1 = 0 then ((clp v 3, r.2.1, r.2.2) : HRs) else (r.1, clp v 9, r.2.2)).2.1 = _ ∧ (((if c.1 = 0 then ((clp v 3, r.2.1, r.2.2) : HRs) else (r.1, clp v 9, r.2.2)).2.2 : Nat) : Int) = _ ∧ ∀ w : Int, (if (if c.1 = 0 then ((clp v 3, r.2.1, r.2.2) : HRs) else (r.1, clp v 9, r.2.2)).1 = -1 then w else (if c.1 = 0 then ((clp v 3, r.2.1, r.2.2) : HRs) else (r.1, clp v 9, r.2.2)).1) = _
        rw [if_neg (show ¬ c.1 = 0 by omega)]
        refine ⟨rfl, rfl, fun w => ?_⟩
        rw [if_neg (show ¬ (c.1 + 1 = 1 ∧ _) by omega)]
    · rw [if_pos k, if_neg (show ¬ (c.1 + 1 = 2 ∧ _) by omega), if_pos (show c.1 + 1 = 3 ∧ _ from ⟨by omega, s⟩), if_pos k]
      refine ⟨rfl, rfl, fun w => ?_⟩
      rw [if_neg (show ¬ (c.1 + 1 = 1 ∧ _) by omega)]
  · rw [if_neg s, if_neg (fun z => s z.2), if_neg (fun z => s z.2)]
    refine ⟨rfl, rfl, fun w => ?_⟩
    rw [if_neg (fun z => s z.2)]
set_option maxRecDepth 20000 in
theorem hS_fold {e : Env} : ∀ (cl : List Cla) (r : HRs), (∀ c, c ∈ cl → c.1 ≤ 2) → (cl.foldl (hS e) r).2.1 = cl.foldl (tS 2 9 e) r.2.1 ∧ (((cl.foldl (hS e) r).2.2 : Nat) : Int) = cl.foldl (tS 3 1 e) (r.2.2 : Int) ∧ ∀ w : Int, (if (cl.foldl (hS e) r).1 = -1 then w else (cl.foldl (hS e) r).1) = cl.foldl (tS 1 3 e) (if r.1 = -1 then w else r.1)
  | [], r, _ => ⟨rfl, rfl, fun _ => rfl⟩
  | c :: cl, r, h => by
    obtain ⟨a1, a2, a3⟩ := hS_all (e := e) (r := r) (h c List.mem_cons_self)
    obtain ⟨b1, b2, b3⟩ := hS_fold (e := e) cl (hS e r c) (fun c' hc => h c' (List.mem_cons_of_mem _ hc))
    refine ⟨?_, ?_, fun w => ?_⟩
    · rw [List.foldl_cons, List.foldl_cons, b1, a1]
    · rw [List.foldl_cons, List.foldl_cons, b2, a2]
    · rw [List.foldl_cons, List.foldl_cons, b3 w, a3 w]
set_option maxRecDepth 20000 in
theorem tS_bd {hd : Nat} {hi M : Int} {e : Env} (h0 : 0 ≤ hi) (h1 : hi ≤ M) : ∀ (cl : List Cla) (w : Int), 0 ≤ w → w ≤ M → 0 ≤ cl.foldl (tS hd hi e) w ∧ cl.foldl (tS hd hi e) w ≤ M
  | [], w, a, b => ⟨a, b⟩
  | c :: cl, w, a, b => by
    have hs : 0 ≤ tS hd hi e w c ∧ tS hd hi e w c ≤ M := by
      unfold tS
      split
      · split
        · have := clp_bd (v := 1) h0; omega
        · cases c.2.2.1 e with
          | none => exact ⟨a, b⟩
          | some v => have := clp_bd (v := v) h0; exact ⟨this.1, by show clp v hi ≤ M; omega⟩
      · exact ⟨a, b⟩
    rw [List.foldl_cons]
    exact tS_bd h0 h1 cl _ hs.1 hs.2
def tellsR (K : KT) (hd : Nat) (hi w : Int) (p q dy m1 m2 : Nat) : Int := if K 97 = 0 then w else (kcl K (K 97 - 1)).2.2.foldl (tS hd hi (lawE K p q dy m1 m2 (K 38))) w
def swN (K : KT) (p q dy mk wk : Nat) : Nat := (hearR K p q dy mk wk).2.1.toNat
def brN (K : KT) (p q dy mk wk : Nat) : Nat := (hearR K p q dy mk wk).2.2
def tkN (K : KT) (p q dy mk wk w : Nat) : Nat := if (hearR K p q dy mk wk).1 = -1 then w else (hearR K p q dy mk wk).1.toNat
/-! tokens of a law that can be read -/
set_option maxRecDepth 20000 in
theorem pIf_ok {o : Bool} {tc tv : Nat → Nat} {n i p kd tm : Nat} {x y z : Den} (h0 : ∀ j, n ≤ j → tc j = 0) (hi : i ≤ n) (h : (pIf o tc tv i p kd tm x y z).1 = 1) : i ≤ (pIf o tc tv i p kd tm x y z).2.1 ∧ (pIf o tc tv i p kd tm x y z).2.1 ≤ n ∧ ∀ j, i ≤ j → j < (pIf o tc tv i p kd tm x y z).2.1 → tc j < 200 := by
  by_cases c : tc i = 4
  · have hin : i < n := Nat.lt_of_not_le (fun q => by have := h0 i q; omega)
    have e : pIf o tc tv i p kd tm x y z = if (pTest o tc tv (i + 1) p).1 = 1 then (1, (pTest o tc tv (i + 1) p).2.1, (pTest o tc tv (i + 1) p).2.2.1, kd, tm, x, y, z, 1, (pTest o tc tv (i + 1) p).2.2.2) else ((pTest o tc tv (i + 1) p).1, (pTest o tc tv (i + 1) p).2.1, (pTest o tc tv (i + 1) p).2.2.1, kd, tm, x, y, z, 1, dz) := if_pos c
    by_cases ct : (pTest o tc tv (i + 1) p).1 = 1
    · rw [e, if_pos ct]
      exact ((prs_ok (o := o) (tv := tv) h0 PFuel 0 0 (i + 1) p dz hin).tok (by omega)) ct
    · rw [e, if_neg ct] at h
      exact absurd h ct
  · have e : pIf o tc tv i p kd tm x y z = (1, i, p, kd, tm, x, y, z, 0, dz) := if_neg c
    rw [e]
    exact ⟨Nat.le_refl _, hi, fun j a b => absurd b (Nat.not_lt.mpr a)⟩
set_option maxRecDepth 20000 in
theorem pLawC_ok {tc tv : Nat → Nat} {n i p : Nat} (h0 : ∀ j, n ≤ j → tc j = 0) (h : (pLawC tc tv i p).1 = 1) : i < (pLawC tc tv i p).2.1 ∧ (pLawC tc tv i p).2.1 ≤ n ∧ ∀ j, i ≤ j → j < (pLawC tc tv i p).2.1 → tc j < 200 := by
  by_cases c1 : tc i = 1 ∨ tc i = 2
  · have hin : i < n := Nat.lt_of_not_le (fun q => by have := h0 i q; omega)
    have ep : pLawC tc tv i p = if (pSum false tc tv (i + 1) p).1 = 1 then pIf false tc tv (pSum false tc tv (i + 1) p).2.1 (pSum false tc tv (i + 1) p).2.2.1 (tc i - 1) 1 (pSum false tc tv (i + 1) p).2.2.2 dz dz else ((pSum false tc tv (i + 1) p).1, (pSum false tc tv (i + 1) p).2.1, (pSum false tc tv (i + 1) p).2.2.1, 0, 1, dz, dz, dz, 0, dz) := if_pos c1
    by_cases cs : (pSum false tc tv (i + 1) p).1 = 1
    · rw [if_pos cs] at ep
      rw [ep] at h ⊢
      obtain ⟨o1, o2, o3⟩ := prs_ok (o := false) (tv := tv) h0 PFuel 5 0 (i + 1) p dz hin cs
      obtain ⟨q1, q2, q3⟩ := pIf_ok h0 o2 h
      have o1' : i + 1 ≤ (pSum false tc tv (i + 1) p).2.1 := o1
      refine ⟨by omega, q2, fun j a b => ?_⟩
      by_cases e1 : j = i
      · rw [e1]; omega
      by_cases e2 : j < (pSum false tc tv (i + 1) p).2.1
      · exact o3 j (by omega) e2
      · exact q3 j (by omega) b
    · rw [if_neg cs] at ep
      rw [ep] at h
      exact absurd h cs
  · by_cases c3 : tc i = 3
    · have hin : i < n := Nat.lt_of_not_le (fun q => by have := h0 i q; omega)
      have ep : pLawC tc tv i p = pIf false tc tv (i + 1) p 2 1 dz dz dz := by
        unfold pLawC
        rw [if_neg c1, if_pos c3]
      rw [ep] at h ⊢
      obtain ⟨q1, q2, q3⟩ := pIf_ok h0 (show i + 1 ≤ n from hin) h
      refine ⟨by omega, q2, fun j a b => ?_⟩
      by_cases e1 : j = i
      · rw [e1]; omega
      · exact q3 j (by omega) b
    · have ep : (pLawC tc tv i p).1 = 0 := by
        unfold pLawC
        rw [if_neg c1, if_neg c3]
      rw [ep] at h
      exact absurd h (by omega)
set_option maxRecDepth 20000 in
theorem pTxt_ok {tc tv : Nat → Nat} {n : Nat} (h0 : ∀ j, n ≤ j → tc j = 0) : ∀ m i p, (pTxt false tc tv n m i p).1 = 1 → ∀ j, i ≤ j → j < n → tc j < 200
  | 0, i, p, h => absurd h (by show ¬ 0 = 1; omega)
  | m + 1, i, p, h => by
    have et : pTxt false tc tv n (m + 1) i p = (if (pLawC tc tv i p).1 = 1 then (if (pLawC tc tv i p).2.1 = n then (1, n, [(pLawC tc tv i p).2.2.2]) else if tc (pLawC tc tv i p).2.1 = 159 then ((pTxt false tc tv n m ((pLawC tc tv i p).2.1 + 1) (pLawC tc tv i p).2.2.1).1, (pTxt false tc tv n m ((pLawC tc tv i p).2.1 + 1) (pLawC tc tv i p).2.2.1).2.1, (pLawC tc tv i p).2.2.2 :: (pTxt false tc tv n m ((pLawC tc tv i p).2.1 + 1) (pLawC tc tv i p).2.2.1).2.2) else (0, (pLawC tc tv i p).2.1, [])) else ((pLawC tc tv i p).1, (pLawC tc tv i p).2.1, [])) := rfl
    rw [et] at h
    by_cases c1 : (pLawC tc tv i p).1 = 1
    · rw [if_pos c1] at h
      obtain ⟨q1, q2, q3⟩ := pLawC_ok h0 c1
      intro j a b
      by_cases e1 : j < (pLawC tc tv i p).2.1
      · exact q3 j a e1
      by_cases c2 : (pLawC tc tv i p).2.1 = n
      · omega
      · rw [if_neg c2] at h
        by_cases c3 : tc (pLawC tc tv i p).2.1 = 159
        · rw [if_pos c3] at h
          by_cases e2 : j = (pLawC tc tv i p).2.1
          · rw [e2]; omega
          · exact pTxt_ok h0 m _ _ h j (by omega) b
        · rw [if_neg c3] at h
          exact absurd h (by show ¬ 0 = 1; omega)
    · rw [if_neg c1] at h
      exact absurd h c1
