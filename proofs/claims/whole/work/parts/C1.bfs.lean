/-! ===== all rows that talks can reach, nearest first ===== -/
abbrev BSt : Type := List Nat × (Nat → Nat × Nat × Nat)
def bfS (K : KT) (dy who r : Nat) (st : BSt) (p q : Nat) : BSt := if who.testBit p = true ∧ who.testBit q = true then (raK K dy r p q).elim st (fun t => if t ∈ st.1 then st else (st.1 ++ [t], fun x => if x = t then (r, p, q) else st.2 x)) else st
def bfQ (K : KT) (dy who r p : Nat) : Nat → Nat → BSt → BSt
  | 0, _, st => st
  | m + 1, q, st => bfQ K dy who r p m (q + 1) (bfS K dy who r st p q)
def bfP (K : KT) (dy who r : Nat) : Nat → Nat → BSt → BSt
  | 0, _, st => st
  | m + 1, p, st => bfP K dy who r m (p + 1) (bfQ K dy who r p (K 93 - (p + 1)) (p + 1) st)
def bfL (K : KT) (dy who : Nat) : Nat → Nat → BSt → BSt
  | 0, _, st => st
  | f + 1, k, st => (st.1[k]?).elim st (fun r => bfL K dy who f (k + 1) (bfP K dy who r (K 93) 0 st))
def bfI (K : KT) (dy : Nat) : BSt := ([row0 K dy], fun _ => (0, 0, 0))
set_option maxRecDepth 20000 in
theorem pig : ∀ (M : Nat) (L : List Nat), L.Pairwise (· ≠ ·) → (∀ x, x ∈ L → x < M) → L.length ≤ M
  | 0, [], _, _ => Nat.le_refl _
  | 0, x :: L, _, h => absurd (h x List.mem_cons_self) (by omega)
  | M + 1, L, hp, h => by
    by_cases c : M ∈ L
    · obtain ⟨A, B, rfl⟩ := List.append_of_mem c
      have hs : (A ++ B).Sublist (A ++ M :: B) := List.Sublist.append (List.Sublist.refl A) (List.sublist_cons_self M B)
      have hp2 := hp.sublist hs
      obtain ⟨a1, a2, a3⟩ := List.pairwise_append.mp hp
      have b1 := List.pairwise_cons.mp a2
      have ih := pig M (A ++ B) hp2 (fun x hx => by
        have h1 := h x (hs.mem hx)
        have h2 : x ≠ M := by
          rcases List.mem_append.mp hx with z | z
          · exact a3 x z M List.mem_cons_self
          · exact fun e => b1.1 x z e.symm
        omega)
      simp only [List.length_append, List.length_cons] at ih ⊢
      omega
    · have := pig M L hp (fun x hx => by
        have h1 := h x hx
        have h2 : x ≠ M := fun e => c (e ▸ hx)
        omega)
      omega
def BOK (K : KT) (dy : Nat) (st : BSt) : Prop := st.1.Pairwise (· ≠ ·) ∧ (∀ x, x ∈ st.1 → x < 4 ^ K 93) ∧ st.1[0]? = some (row0 K dy) ∧ ∀ i x, 0 < i → st.1[i]? = some x → ∃ i', i' < i ∧ st.1[i']? = some (st.2 x).1 ∧ (st.2 x).2.1 < (st.2 x).2.2 ∧ (st.2 x).2.2 < K 93
def BEx (st st' : BSt) : Prop := (∃ L, st'.1 = st.1 ++ L) ∧ ∀ x, x ∈ st.1 → st'.2 x = st.2 x
set_option maxRecDepth 20000 in
theorem BEx.refl {st : BSt} : BEx st st := ⟨⟨[], (List.append_nil _).symm⟩, fun _ _ => rfl⟩
set_option maxRecDepth 20000 in
theorem BEx.mem {st st' : BSt} (h : BEx st st') {x : Nat} (hx : x ∈ st.1) : x ∈ st'.1 := by
  obtain ⟨⟨L, e⟩, -⟩ := h
  rw [e]
  exact List.mem_append_left _ hx
set_option maxRecDepth 20000 in
theorem BEx.trans {a b c : BSt} (h : BEx a b) (h1 : BEx b c) : BEx a c := by
  refine ⟨?_, fun x hx => (h1.2 x (h.mem hx)).trans (h.2 x hx)⟩
  obtain ⟨L, e⟩ := h.1
  obtain ⟨M, e1⟩ := h1.1
  exact ⟨L ++ M, by rw [e1, e, List.append_assoc]⟩
set_option maxRecDepth 20000 in
theorem BEx.at {st st' : BSt} (h : BEx st st') {i x : Nat} (hx : st.1[i]? = some x) : st'.1[i]? = some x := by
  obtain ⟨⟨L, e⟩, -⟩ := h
  rw [e, List.getElem?_append_left (List.getElem?_eq_some_iff.mp hx).1]
  exact hx
set_option maxRecDepth 20000 in
theorem BOK.len {K : KT} (hW : WF K) {dy : Nat} {st : BSt} (h : BOK K dy st) : st.1.length ≤ 4096 := Nat.le_trans (pig _ _ h.1 h.2.1) (pow4_6 hW.n)
set_option maxRecDepth 20000 in
theorem BOK.inj {K : KT} {dy : Nat} {st : BSt} (h : BOK K dy st) {i i' x : Nat} (a : st.1[i]? = some x) (b : st.1[i']? = some x) : i = i' := by
  obtain ⟨a1, a2⟩ := List.getElem?_eq_some_iff.mp a
  obtain ⟨b1, b2⟩ := List.getElem?_eq_some_iff.mp b
  have hp := List.pairwise_iff_getElem.mp h.1
  rcases Nat.lt_trichotomy i i' with c | c | c
  · exact absurd (a2.trans b2.symm) (hp i i' a1 b1 c)
  · exact c
  · exact absurd (b2.trans a2.symm) (hp i' i b1 a1 c)
set_option maxRecDepth 20000 in
theorem bfI_ok {K : KT} (hW : WF K) {dy : Nat} (hd : dy < 4) : BOK K dy (bfI K dy) := by
  refine ⟨List.pairwise_singleton _ _, fun x hx => ?_, rfl, fun i x hi hx => ?_⟩
  · rw [List.mem_singleton.mp hx]; exact row0_lt hW hd
  · have := (List.getElem?_eq_some_iff.mp hx).1
    simp only [bfI, List.length_cons, List.length_nil] at this
    omega
set_option maxRecDepth 20000 in
theorem bfS_new {K : KT} (hW : WF K) {dy : Nat} {st : BSt} {k r p q t : Nat} (h : BOK K dy st) (hr : st.1[k]? = some r) (hpq : p < q) (hq : q < K 93) (ht : raK K dy r p q = some t) (hn : ¬ t ∈ st.1) : BOK K dy (st.1 ++ [t], fun x => if x = t then (r, p, q) else st.2 x) ∧ BEx st (st.1 ++ [t], fun x => if x = t then (r, p, q) else st.2 x) := by
  obtain ⟨h1, h2, h3, h4⟩ := h
  have hex : BEx st (st.1 ++ [t], fun x => if x = t then (r, p, q) else st.2 x) := ⟨⟨[t], rfl⟩, fun x hx => if_neg (fun (e : x = t) => hn (e ▸ hx))⟩
  refine ⟨⟨?_, fun x hx => ?_, hex.at h3, fun i x hi hx => ?_⟩, hex⟩
  · refine List.pairwise_append.mpr ⟨h1, List.pairwise_singleton _ _, fun a ha b hb => ?_⟩
    rw [List.mem_singleton.mp hb]
    exact fun e => hn (e ▸ ha)
  · rcases List.mem_append.mp hx with z | z
    · exact h2 x z
    · rw [List.mem_singleton.mp z]
      exact raK_lt hW (by omega) hq (h2 r (List.mem_of_getElem? hr)) ht
  · have hl := (List.getElem?_eq_some_iff.mp hx).1
    simp only [List.length_append, List.length_cons, List.length_nil] at hl
    by_cases c : i < st.1.length
    · have hx' : st.1[i]? = some x := by
        have := hx
        simp only [List.getElem?_append_left c] at this
        exact this
      obtain ⟨i', q1, q2, q3, q4⟩ := h4 i x hi hx'
      have e : (fun x => if x = t then ((r, p, q) : Nat × Nat × Nat) else st.2 x) x = st.2 x := if_neg (fun (e : x = t) => hn (e ▸ List.mem_of_getElem? hx'))
      refine ⟨i', q1, ?_, ?_, ?_⟩
      · show (st.1 ++ [t])[i']? = some ((fun x => if x = t then ((r, p, q) : Nat × Nat × Nat) else st.2 x) x).1
        rw [e]; exact hex.at q2
      · show ((fun x => if x = t then ((r, p, q) : Nat × Nat × Nat) else st.2 x) x).2.1 < ((fun x => if x = t then ((r, p, q) : Nat × Nat × Nat) else st.2 x) x).2.2
        rw [e]; exact q3
      · show ((fun x => if x = t then ((r, p, q) : Nat × Nat × Nat) else st.2 x) x).2.2 < K 93
        rw [e]; exact q4
    · have c2 : i = st.1.length := by omega
      have ex : x = t := by
        have := hx
        simp only [c2, List.getElem?_append_right (Nat.le_refl _), Nat.sub_self] at this
        exact (Option.some.inj this).symm
      have e : (fun x => if x = t then ((r, p, q) : Nat × Nat × Nat) else st.2 x) x = (r, p, q) := if_pos ex
      have hk := (List.getElem?_eq_some_iff.mp hr).1
      refine ⟨k, by omega, ?_, ?_, ?_⟩
      · show (st.1 ++ [t])[k]? = some ((fun x => if x = t then ((r, p, q) : Nat × Nat × Nat) else st.2 x) x).1
        rw [e]; exact hex.at hr
      · show ((fun x => if x = t then ((r, p, q) : Nat × Nat × Nat) else st.2 x) x).2.1 < ((fun x => if x = t then ((r, p, q) : Nat × Nat × Nat) else st.2 x) x).2.2
        rw [e]; exact hpq
      · show ((fun x => if x = t then ((r, p, q) : Nat × Nat × Nat) else st.2 x) x).2.2 < K 93
        rw [e]; exact hq
set_option maxRecDepth 20000 in
theorem bfS_ok {K : KT} (hW : WF K) {dy who : Nat} {st : BSt} {k r p q : Nat} (h : BOK K dy st) (hr : st.1[k]? = some r) (hpq : p < q) (hq : q < K 93) : BOK K dy (bfS K dy who r st p q) ∧ BEx st (bfS K dy who r st p q) := by
  unfold bfS
  split
  · cases ht : raK K dy r p q with
    | none => exact ⟨h, BEx.refl⟩
    | some t =>
      show BOK K dy (if t ∈ st.1 then st else _) ∧ BEx st (if t ∈ st.1 then st else _)
      split
      · exact ⟨h, BEx.refl⟩
      · rename_i hn
        exact bfS_new hW h hr hpq hq ht hn
  · exact ⟨h, BEx.refl⟩
set_option maxRecDepth 20000 in
theorem bfQ_ok {K : KT} (hW : WF K) {dy who k r p : Nat} : ∀ (m q : Nat) (st : BSt), q + m = K 93 → p < q → BOK K dy st → st.1[k]? = some r → BOK K dy (bfQ K dy who r p m q st) ∧ BEx st (bfQ K dy who r p m q st)
  | 0, _, _, _, _, h, _ => ⟨h, BEx.refl⟩
  | m + 1, q, st, e, hpq, h, hr => by
    obtain ⟨a, b⟩ := bfS_ok hW (who := who) h hr hpq (show q < K 93 by omega)
    obtain ⟨c, d⟩ := bfQ_ok hW (who := who) (p := p) m (q + 1) _ (by omega) (by omega) a (b.at hr)
    exact ⟨c, b.trans d⟩
set_option maxRecDepth 20000 in
theorem bfP_ok {K : KT} (hW : WF K) {dy who k r : Nat} : ∀ (m p : Nat) (st : BSt), p + m = K 93 → BOK K dy st → st.1[k]? = some r → BOK K dy (bfP K dy who r m p st) ∧ BEx st (bfP K dy who r m p st)
  | 0, _, _, _, h, _ => ⟨h, BEx.refl⟩
  | m + 1, p, st, e, h, hr => by
    obtain ⟨a, b⟩ := bfQ_ok hW (who := who) (p := p) (K 93 - (p + 1)) (p + 1) st (by omega) (by omega) h hr
    obtain ⟨c, d⟩ := bfP_ok hW (who := who) m (p + 1) _ (by omega) a (b.at hr)
    exact ⟨c, b.trans d⟩
set_option maxRecDepth 20000 in
theorem bfL_ok {K : KT} (hW : WF K) {dy who : Nat} : ∀ (f k : Nat) (st : BSt), BOK K dy st → BOK K dy (bfL K dy who f k st) ∧ BEx st (bfL K dy who f k st)
  | 0, _, _, h => ⟨h, BEx.refl⟩
  | f + 1, k, st, h => by
    unfold bfL
    cases hr : st.1[k]? with
    | none => exact ⟨h, BEx.refl⟩
    | some r =>
      obtain ⟨a, b⟩ := bfP_ok hW (who := who) (K 93) 0 st (by omega) h hr
      obtain ⟨c, d⟩ := bfL_ok hW (who := who) f (k + 1) _ a
      exact ⟨c, b.trans d⟩
abbrev BfA (K : KT) (dy who : Nat) : BSt := bfL K dy who 4097 0 (bfI K dy)
set_option maxRecDepth 20000 in
theorem BfA_ok {K : KT} (hW : WF K) {dy who : Nat} (hd : dy < 4) : BOK K dy (BfA K dy who) := (bfL_ok hW 4097 0 _ (bfI_ok hW hd)).1
/-- on what those of on agree in a row -/
def agR (K : KT) (r on : Nat) : Option Nat := agr 4 (dg (K 93) r) on.testBit (K 93)
set_option maxRecDepth 20000 in
theorem agR_x {K : KT} {r on : Nat} : agr 100 (dg (K 93) r) on.testBit (K 93) = (agR K r on).map z100 := agr_z (fun p _ => dg_lt)
set_option maxRecDepth 20000 in
theorem agR_m {K : KT} (hW : WF K) {r on : Nat} (ho : on < 2 ^ K 93) : agr 4 (dg 6 (r * 4 ^ (6 - K 93))) on.testBit 6 = agR K r on := by
  have h6 := hW.n
  have e := agr_off (z := 4) (mk := dg 6 (r * 4 ^ (6 - K 93))) (on := on.testBit) (n := K 93) (6 - K 93) (fun p hp => tb_off ho hp)
  rw [show K 93 + (6 - K 93) = 6 by omega] at e
  rw [e]
  exact agr_congr (fun p hp => dg6 h6 hp)
set_option maxRecDepth 20000 in
theorem agR_lt {K : KT} {r on c : Nat} (h : agR K r on = some c) : c < 1000 := agr_lt (by omega) (fun p _ => dg_lt) h
/-- the first row of a list in which they agree -/
def fA (K : KT) (on : Nat) : List Nat → Option Nat
  | [] => none
  | x :: L => if agR K x on = none then fA K on L else some x
set_option maxRecDepth 20000 in
theorem fA_app {K : KT} {on : Nat} : ∀ (A B : List Nat), (∀ x, x ∈ A → agR K x on = none) → fA K on (A ++ B) = fA K on B
  | [], _, _ => rfl
  | x :: A, B, h => by
    show (if agR K x on = none then fA K on (A ++ B) else some x) = _
    rw [if_pos (h x List.mem_cons_self)]
    exact fA_app A B (fun y hy => h y (List.mem_cons_of_mem _ hy))
set_option maxRecDepth 20000 in
theorem fA_none {K : KT} {on : Nat} : ∀ (A : List Nat), fA K on A = none ↔ ∀ x, x ∈ A → agR K x on = none
  | [] => ⟨fun _ x hx => (by cases hx), fun _ => rfl⟩
  | x :: A => by
    show (if agR K x on = none then fA K on A else some x) = none ↔ _
    by_cases c : agR K x on = none
    · rw [if_pos c, fA_none A]
      exact ⟨fun h y hy => (by rcases List.mem_cons.mp hy with rfl | z; exact c; exact h y z), fun h y hy => h y (List.mem_cons_of_mem _ hy)⟩
    · rw [if_neg c]
      exact ⟨fun h => (by cases h), fun h => absurd (h x List.mem_cons_self) c⟩
/-- the class's walk: it may end at the first row in which they agree -/
def bfX (K : KT) (dy who on : Nat) (w : Bool) : Nat → Nat → BSt → BSt × Option Nat
  | 0, _, st => (st, none)
  | f + 1, k, st => (st.1[k]?).elim (st, none) (fun r => if w = true ∧ agR K r on ≠ none then (st, some r) else bfX K dy who on w f (k + 1) (bfP K dy who r (K 93) 0 st))
set_option maxRecDepth 20000 in
theorem bfX_f {K : KT} {dy who on : Nat} : ∀ (f k : Nat) (st : BSt), (bfX K dy who on false f k st).1 = bfL K dy who f k st
  | 0, _, _ => rfl
  | f + 1, k, st => by
    unfold bfX bfL
    cases hr : st.1[k]? with
    | none => rfl
    | some r =>
      show (if false = true ∧ agR K r on ≠ none then (st, some r) else bfX K dy who on false f (k + 1) (bfP K dy who r (K 93) 0 st)).1 = bfL K dy who f (k + 1) (bfP K dy who r (K 93) 0 st)
      rw [if_neg (fun z => absurd z.1 (by decide))]
      exact bfX_f f (k + 1) _
set_option maxRecDepth 20000 in
theorem bfX_t {K : KT} (hW : WF K) {dy who on : Nat} : ∀ (f k : Nat) (st : BSt), k + f = 4097 → BOK K dy st → (∀ i x, i < k → st.1[i]? = some x → agR K x on = none) → (bfX K dy who on true f k st).2 = fA K on (bfL K dy who f k st).1 ∧ BOK K dy (bfX K dy who on true f k st).1 ∧ BEx (bfX K dy who on true f k st).1 (bfL K dy who f k st) ∧ ∀ r, (bfX K dy who on true f k st).2 = some r → r ∈ (bfX K dy who on true f k st).1.1
  | 0, k, st, hk, h, hn => by
    have hl := h.len hW
    refine ⟨?_, h, BEx.refl, fun r hr => (by cases hr)⟩
    refine ((fA_none _).mpr (fun x hx => ?_)).symm
    obtain ⟨i, hi⟩ := List.getElem?_of_mem hx
    have hi' : st.1[i]? = some x := hi
    exact hn i x (by have := (List.getElem?_eq_some_iff.mp hi').1; omega) hi'
  | f + 1, k, st, hk, h, hn => by
    unfold bfX bfL
    cases hr : st.1[k]? with
    | none =>
      refine ⟨?_, h, BEx.refl, fun r hr => (by cases hr)⟩
      refine ((fA_none _).mpr (fun x hx => ?_)).symm
      obtain ⟨i, hi⟩ := List.getElem?_of_mem hx
      have hi' : st.1[i]? = some x := hi
      exact hn i x (by have := (List.getElem?_eq_some_iff.mp hi').1; have := List.getElem?_eq_none_iff.mp hr; omega) hi'
    | some r =>
      obtain ⟨a, b⟩ := bfP_ok hW (who := who) (K 93) 0 st (by omega) h hr
      simp only [Option.elim_some]
      by_cases c : agR K r on = none
      · rw [if_neg (fun z => z.2 c)]
        refine bfX_t hW f (k + 1) _ (by omega) a (fun i x hi hx => ?_)
        by_cases e : i = k
        · subst e
          rw [b.at hr] at hx
          rw [← Option.some.inj hx]; exact c
        · have hil : i < st.1.length := by have := (List.getElem?_eq_some_iff.mp hr).1; omega
          obtain ⟨L, eL⟩ := b.1
          rw [eL, List.getElem?_append_left hil] at hx
          exact hn i x (by omega) hx
      · rw [if_pos ⟨trivial, c⟩]
        obtain ⟨c1, d1⟩ := bfL_ok hW (who := who) f (k + 1) _ a
        refine ⟨?_, h, b.trans d1, fun r' e => (by rw [← Option.some.inj e]; exact List.mem_of_getElem? hr)⟩
        obtain ⟨L, eL⟩ := (b.trans d1).1
        obtain ⟨hkl, hke⟩ := List.getElem?_eq_some_iff.mp hr
        have e1 : st.1 = st.1.take k ++ r :: st.1.drop (k + 1) := by
          rw [← hke, List.getElem_cons_drop, List.take_append_drop]
        rw [eL, e1, List.append_assoc, fA_app _ _ (fun x hx => ?_)]
        · show some r = if agR K r on = none then _ else some r
          rw [if_neg c]
        · obtain ⟨i, hi⟩ := List.getElem?_of_mem hx
          have hil := (List.getElem?_eq_some_iff.mp hi).1
          rw [List.length_take] at hil
          rw [List.getElem?_take, if_pos (by omega)] at hi
          exact hn i x (by omega) hi
/-- the talks back from a row to the first -/
def pth (cf : Nat → Nat × Nat × Nat) (s : Nat) : Nat → Nat → List Nat
  | 0, _ => []
  | f + 1, r => if r = s then [] else (10 * (cf r).2.1 + (cf r).2.2) :: pth cf s f (cf r).1
set_option maxRecDepth 20000 in
theorem pth_ext {K : KT} {dy : Nat} {st st' : BSt} (h : BOK K dy st) (hx : BEx st st') : ∀ (f i r : Nat), st.1[i]? = some r → pth st'.2 (row0 K dy) f r = pth st.2 (row0 K dy) f r
  | 0, _, _, _ => rfl
  | f + 1, i, r, hi => by
    unfold pth
    by_cases c : r = row0 K dy
    · rw [if_pos c, if_pos c]
    · rw [if_neg c, if_neg c, hx.2 r (List.mem_of_getElem? hi)]
      have hi0 : 0 < i := Nat.pos_of_ne_zero (fun e => by subst e; rw [h.2.2.1] at hi; exact c (Option.some.inj hi).symm)
      obtain ⟨i', q1, q2, -⟩ := h.2.2.2 i r hi0 hi
      rw [pth_ext h hx f i' _ q2]
set_option maxRecDepth 20000 in
theorem pth_len {K : KT} {dy : Nat} {st : BSt} (h : BOK K dy st) : ∀ (f i r : Nat), st.1[i]? = some r → (pth st.2 (row0 K dy) f r).length ≤ i
  | 0, _, _, _ => Nat.zero_le _
  | f + 1, i, r, hi => by
    unfold pth
    by_cases c : r = row0 K dy
    · rw [if_pos c]; exact Nat.zero_le _
    · rw [if_neg c]
      have hi0 : 0 < i := Nat.pos_of_ne_zero (fun e => by subst e; rw [h.2.2.1] at hi; exact c (Option.some.inj hi).symm)
      obtain ⟨i', q1, q2, -⟩ := h.2.2.2 i r hi0 hi
      have := pth_len h f i' _ q2
      simp only [List.length_cons]
      omega
