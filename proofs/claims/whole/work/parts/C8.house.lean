/-! ===== which rows are reached ===== -/
def Clo (K : KT) (dy who : Nat) (S : Nat → Prop) : Prop := ∀ r p q t, S r → p < q → q < K 93 → who.testBit p = true → who.testBit q = true → raK K dy r p q = some t → S t
set_option maxRecDepth 20000 in
theorem bfS_snd {K : KT} {dy who : Nat} {S : Nat → Prop} (hC : Clo K dy who S) {st : BSt} {r p q : Nat} (h : ∀ x, x ∈ st.1 → S x) (hr : S r) (hpq : p < q) (hq : q < K 93) : ∀ x, x ∈ (bfS K dy who r st p q).1 → S x := by
  unfold bfS
  split
  · rename_i hb
    cases ht : raK K dy r p q with
    | none => exact h
    | some t =>
      show ∀ x, x ∈ (if t ∈ st.1 then st else (st.1 ++ [t], fun x => if x = t then (r, p, q) else st.2 x)).1 → S x
      split
      · exact h
      · intro x hx
        rcases List.mem_append.mp hx with z | z
        · exact h x z
        · rw [List.mem_singleton.mp z]
          exact hC r p q t hr hpq hq hb.1 hb.2 ht
  · exact h
set_option maxRecDepth 20000 in
theorem bfQ_snd {K : KT} {dy who : Nat} {S : Nat → Prop} (hC : Clo K dy who S) {r p : Nat} (hr : S r) : ∀ (m q : Nat) (st : BSt), q + m = K 93 → p < q → (∀ x, x ∈ st.1 → S x) → ∀ x, x ∈ (bfQ K dy who r p m q st).1 → S x
  | 0, _, _, _, _, h => h
  | m + 1, q, st, e, hpq, h => bfQ_snd hC hr m (q + 1) _ (by omega) (by omega) (bfS_snd hC h hr hpq (by omega))
set_option maxRecDepth 20000 in
theorem bfP_snd {K : KT} {dy who : Nat} {S : Nat → Prop} (hC : Clo K dy who S) {r : Nat} (hr : S r) : ∀ (m p : Nat) (st : BSt), p + m = K 93 → (∀ x, x ∈ st.1 → S x) → ∀ x, x ∈ (bfP K dy who r m p st).1 → S x
  | 0, _, _, _, h => h
  | m + 1, p, st, e, h => bfP_snd hC hr m (p + 1) _ (by omega) (bfQ_snd hC hr _ _ _ (by omega) (by omega) h)
set_option maxRecDepth 20000 in
theorem bfL_snd {K : KT} {dy who : Nat} {S : Nat → Prop} (hC : Clo K dy who S) : ∀ (f k : Nat) (st : BSt), (∀ x, x ∈ st.1 → S x) → ∀ x, x ∈ (bfL K dy who f k st).1 → S x
  | 0, _, _, h => h
  | f + 1, k, st, h => by
    unfold bfL
    cases hr : st.1[k]? with
    | none => exact h
    | some r => exact bfL_snd hC f (k + 1) _ (bfP_snd hC (h r (List.mem_of_getElem? hr)) (K 93) 0 st (by omega) h)
set_option maxRecDepth 20000 in
theorem BfA_snd {K : KT} {dy who : Nat} {S : Nat → Prop} (hC : Clo K dy who S) (h0 : S (row0 K dy)) : ∀ x, x ∈ (BfA K dy who).1 → S x := bfL_snd hC 4097 0 (bfI K dy) (fun x hx => by rw [List.mem_singleton.mp hx]; exact h0)
def DnR (K : KT) (dy who r p q : Nat) (st : BSt) : Prop := ∀ p' q' t, p' < q' → q' < K 93 → who.testBit p' = true → who.testBit q' = true → (p' < p ∨ (p' = p ∧ q' < q)) → raK K dy r p' q' = some t → t ∈ st.1
set_option maxRecDepth 20000 in
theorem DnR.ex {K : KT} {dy who r p q : Nat} {st st' : BSt} (h : DnR K dy who r p q st) (hx : BEx st st') : DnR K dy who r p q st' := fun p' q' t a1 a2 a3 a4 a5 a6 => hx.mem (h p' q' t a1 a2 a3 a4 a5 a6)
set_option maxRecDepth 20000 in
theorem bfS_dn {K : KT} (hW : WF K) {dy who k r p q : Nat} {st : BSt} (hO : BOK K dy st) (hr : st.1[k]? = some r) (hpq : p < q) (hq : q < K 93) (h : DnR K dy who r p q st) : DnR K dy who r p (q + 1) (bfS K dy who r st p q) := by
  have hx := (bfS_ok hW (who := who) hO hr hpq hq).2
  intro p' q' t a1 a2 a3 a4 a5 a6
  by_cases c : p' = p ∧ q' = q
  · obtain ⟨rfl, rfl⟩ := c
    unfold bfS
    rw [if_pos ⟨a3, a4⟩, a6]
    show t ∈ (if t ∈ st.1 then st else (st.1 ++ [t], fun x => if x = t then (r, p', q') else st.2 x)).1
    split
    · rename_i z; exact z
    · exact List.mem_append_right _ (List.mem_singleton.mpr rfl)
  · exact hx.mem (h p' q' t a1 a2 a3 a4 (by omega) a6)
set_option maxRecDepth 20000 in
theorem bfQ_dn {K : KT} (hW : WF K) {dy who k r p : Nat} : ∀ (m q : Nat) (st : BSt), q + m = K 93 → p < q → BOK K dy st → st.1[k]? = some r → DnR K dy who r p q st → DnR K dy who r (p + 1) (p + 2) (bfQ K dy who r p m q st)
  | 0, q, st, e, hpq, hO, hr, h => fun p' q' t a1 a2 a3 a4 a5 a6 => h p' q' t a1 a2 a3 a4 (by omega) a6
  | m + 1, q, st, e, hpq, hO, hr, h => by
    obtain ⟨a, b⟩ := bfS_ok hW (who := who) hO hr hpq (show q < K 93 by omega)
    exact bfQ_dn hW m (q + 1) _ (by omega) (by omega) a (b.at hr) (bfS_dn hW hO hr hpq (by omega) h)
set_option maxRecDepth 20000 in
theorem bfP_dn {K : KT} (hW : WF K) {dy who k r : Nat} : ∀ (m p : Nat) (st : BSt), p + m = K 93 → BOK K dy st → st.1[k]? = some r → DnR K dy who r p (p + 1) st → DnR K dy who r (K 93) 0 (bfP K dy who r m p st)
  | 0, p, st, e, hO, hr, h => fun p' q' t a1 a2 a3 a4 a5 a6 => h p' q' t a1 a2 a3 a4 (by omega) a6
  | m + 1, p, st, e, hO, hr, h => by
    obtain ⟨a, b⟩ := bfQ_ok hW (who := who) (p := p) (K 93 - (p + 1)) (p + 1) st (by omega) (by omega) hO hr
    exact bfP_dn hW m (p + 1) _ (by omega) a (b.at hr) (bfQ_dn hW _ _ _ (by omega) (by omega) hO hr h)
set_option maxRecDepth 20000 in
theorem bfL_dn {K : KT} (hW : WF K) {dy who : Nat} : ∀ (f k : Nat) (st : BSt), k + f = 4097 → BOK K dy st → (∀ i x, i < k → st.1[i]? = some x → DnR K dy who x (K 93) 0 st) → ∀ x, x ∈ (bfL K dy who f k st).1 → DnR K dy who x (K 93) 0 (bfL K dy who f k st)
  | 0, k, st, e, hO, h => fun x hx => by
    have hx' : x ∈ st.1 := hx
    obtain ⟨i, hi⟩ := List.getElem?_of_mem hx'
    have := (List.getElem?_eq_some_iff.mp hi).1
    have hl := hO.len hW
    exact h i x (by omega) hi
  | f + 1, k, st, e, hO, h => by
    unfold bfL
    cases hr : st.1[k]? with
    | none =>
      intro x hx
      have hx' : x ∈ st.1 := hx
      obtain ⟨i, hi⟩ := List.getElem?_of_mem hx'
      have h1 := (List.getElem?_eq_some_iff.mp hi).1
      have h2 := List.getElem?_eq_none_iff.mp hr
      exact h i x (by omega) hi
    | some r =>
      obtain ⟨a, b⟩ := bfP_ok hW (who := who) (K 93) 0 st (by omega) hO hr
      have hd := bfP_dn hW (who := who) (K 93) 0 st (by omega) hO hr (fun p' q' t a1 a2 a3 a4 a5 a6 => absurd a5 (by omega))
      refine bfL_dn hW f (k + 1) _ (by omega) a (fun i x hi hx => ?_)
      by_cases c : i = k
      · subst c
        rw [b.at hr] at hx
        rw [← Option.some.inj hx]
        exact hd
      · have hil : i < st.1.length := by have := (List.getElem?_eq_some_iff.mp hr).1; omega
        obtain ⟨L, eL⟩ := b.1
        rw [eL, List.getElem?_append_left hil] at hx
        exact (h i x (by omega) hx).ex b
set_option maxRecDepth 20000 in
theorem BfA_clo {K : KT} (hW : WF K) {dy who : Nat} (hd : dy < 4) : Clo K dy who (fun x => x ∈ (BfA K dy who).1) := fun r p q t hr hpq hq h1 h2 ht => bfL_dn hW 4097 0 (bfI K dy) (by omega) (bfI_ok hW hd) (fun i x hi => absurd hi (by omega)) r hr p q t hpq hq h1 h2 (by omega) ht
set_option maxRecDepth 20000 in
theorem BfA_mono {K : KT} (hW : WF K) {dy c w : Nat} (hd : dy < 4) (hs : ∀ p, c.testBit p = true → w.testBit p = true) : ∀ x, x ∈ (BfA K dy c).1 → x ∈ (BfA K dy w).1 := by
  refine BfA_snd (fun r p q t hr hpq hq h1 h2 ht => BfA_clo hW hd r p q t hr hpq hq (hs p h1) (hs q h2) ht) ?_
  exact List.mem_of_getElem? (BfA_ok hW hd).2.2.1
/-! digits that stay -/
def dgChk (k : Nat) : Bool := (List.range 4096).all (fun x => (x &&& (3 * 2 ^ (2 * k))) == x / 2 ^ (2 * k) % 4 * 2 ^ (2 * k))
set_option maxRecDepth 20000 in
theorem dgChk_ok : dgChk 0 = true ∧ dgChk 1 = true ∧ dgChk 2 = true ∧ dgChk 3 = true ∧ dgChk 4 = true ∧ dgChk 5 = true := by decide +kernel
set_option maxRecDepth 20000 in
theorem dg_and {k x : Nat} (hk : k ≤ 5) (hx : x < 4096) : x &&& (3 * 2 ^ (2 * k)) = x / 2 ^ (2 * k) % 4 * 2 ^ (2 * k) := by
  have h : dgChk k = true := by
    obtain ⟨a0, a1, a2, a3, a4, a5⟩ := dgChk_ok
    rcases (show k = 0 ∨ k = 1 ∨ k = 2 ∨ k = 3 ∨ k = 4 ∨ k = 5 by omega) with rfl | rfl | rfl | rfl | rfl | rfl
    · exact a0
    · exact a1
    · exact a2
    · exact a3
    · exact a4
    · exact a5
  unfold dgChk at h
  rw [List.all_eq_true] at h
  exact beq_iff_eq.mp (h x (List.mem_range.mpr hx))
set_option maxRecDepth 20000 in
theorem raK_dg {K : KT} (hW : WF K) {dy r p q t p' : Nat} (hp : p < K 93) (hq : q < K 93) (hpq : p ≠ q) (hr : r < 4 ^ K 93) (hp' : p' < K 93) (h1 : p' ≠ p) (h2 : p' ≠ q) (h : raK K dy r p q = some t) : dg (K 93) t p' = dg (K 93) r p' := by
  have h6 := hW.n
  have hr4 := Nat.lt_of_lt_of_le hr (pow4_6 h6)
  have ht4 := Nat.lt_of_lt_of_le (raK_lt hW hp hq hr h) (pow4_6 h6)
  have hF := raK_F hW (F := 3 * 2 ^ (2 * (K 93 - 1 - p'))) hp hq hpq hr (dis_and _ (by omega) _ (by omega) 3 (by omega) (by omega)) (dis_and _ (by omega) _ (by omega) 3 (by omega) (by omega)) h
  rw [dg_and (by omega) ht4, dg_and (by omega) hr4] at hF
  exact Nat.eq_of_mul_eq_mul_right (Nat.pow_pos (by omega)) hF
set_option maxRecDepth 20000 in
theorem agr_all {mk : Nat → Nat} {on : Nat → Bool} : ∀ {i c : Nat}, (∀ p, p < i → mk p < 4) → agr 4 mk on i = some c → ∀ p, p < i → on p = true → mk p = c
  | 0, _, _, _, p, hp, _ => absurd hp (by omega)
  | i + 1, c, hm, h, p, hp, ho => by
    have hi := hm i (by omega)
    unfold agr at h
    cases ha : agr 4 mk on i with
    | none => rw [ha] at h; cases h
    | some c' =>
      have ih := agr_all (fun p hp => hm p (by omega)) ha
      rw [ha] at h
      have h' : (if on i = true then (if c' = 4 then some (mk i) else if c' = mk i then some (mk i) else none) else some c') = some c := h
      by_cases o : on i = true
      · rw [if_pos o] at h'
        by_cases c4 : c' = 4
        · rw [if_pos c4] at h'
          have e := Option.some.inj h'
          by_cases e2 : p = i
          · rw [e2]; exact e
          · have e3 := ih p (by omega) ho
            have := hm p (by omega)
            omega
        · rw [if_neg c4] at h'
          by_cases c5 : c' = mk i
          · rw [if_pos c5] at h'
            have e := Option.some.inj h'
            by_cases e2 : p = i
            · rw [e2]; exact e
            · have e3 := ih p (by omega) ho
              omega
          · rw [if_neg c5] at h'
            cases h'
      · rw [if_neg o] at h'
        have e := Option.some.inj h'
        have e2 : p ≠ i := fun z => o (z ▸ ho)
        rw [ih p (by omega) ho]; exact e
set_option maxRecDepth 20000 in
theorem agr_one {mk : Nat → Nat} {on : Nat → Bool} {v : Nat} : ∀ {i : Nat}, (∀ p, p < i → on p = true → mk p = v) → ∃ c, agr 4 mk on i = some c ∧ (c = 4 ∨ c = v)
  | 0, _ => ⟨4, rfl, Or.inl rfl⟩
  | i + 1, h => by
    obtain ⟨c, h1, h2⟩ := agr_one (i := i) (fun p hp => h p (by omega))
    unfold agr
    rw [h1]
    show ∃ c', (if on i = true then (if c = 4 then some (mk i) else if c = mk i then some (mk i) else none) else some c) = some c' ∧ _
    by_cases o : on i = true
    · have e := h i (by omega) o
      rw [if_pos o]
      by_cases c4 : c = 4
      · rw [if_pos c4]; exact ⟨_, rfl, Or.inr e⟩
      · rw [if_neg c4, if_pos (by omega)]; exact ⟨_, rfl, Or.inr e⟩
    · rw [if_neg o]; exact ⟨c, rfl, h2⟩
/-- whether a company brings the roll there -/
def rch (K : KT) (dy on c : Nat) : Bool := (fA K on (BfA K dy c).1).isSome
set_option maxRecDepth 20000 in
theorem rch_iff {K : KT} {dy on c : Nat} : rch K dy on c = true ↔ ∃ x, x ∈ (BfA K dy c).1 ∧ agR K x on ≠ none := by
  unfold rch
  constructor
  · intro h
    have hn : ¬ fA K on (BfA K dy c).1 = none := fun z => by rw [z] at h; cases h
    rw [fA_none] at hn
    obtain ⟨x, hx⟩ := Classical.not_forall.mp hn
    obtain ⟨h1, h2⟩ := Classical.not_imp.mp hx
    exact ⟨x, h1, h2⟩
  · rintro ⟨x, h1, h2⟩
    cases hf : fA K on (BfA K dy c).1 with
    | none => exact absurd ((fA_none _).mp hf x h1) h2
    | some y => rfl
set_option maxRecDepth 20000 in
theorem rch_mono {K : KT} (hW : WF K) {dy on c w : Nat} (hd : dy < 4) (hs : ∀ p, c.testBit p = true → w.testBit p = true) (h : rch K dy on c = true) : rch K dy on w = true := by
  obtain ⟨x, h1, h2⟩ := rch_iff.mp h
  exact rch_iff.mpr ⟨x, BfA_mono hW hd hs x h1, h2⟩
abbrev mns (a c : Nat) : Nat := a &&& (4294967295 ^^^ c)
set_option maxRecDepth 20000 in
theorem mns_bit {a c p : Nat} (hp : p < 32) : (mns a c).testBit p = (a.testBit p && !c.testBit p) := by
  have e : (4294967295 : Nat).testBit p = true := by
    rw [show (4294967295 : Nat) = 2 ^ 32 - 1 from rfl, Nat.testBit_two_pow_sub_one]
    exact decide_eq_true hp
  rw [Nat.testBit_and, Nat.testBit_xor, e]
  cases a.testBit p <;> cases c.testBit p <;> rfl
-- those who are not of the company must agree from the start
set_option maxRecDepth 20000 in
theorem rch_pre {K : KT} (hW : WF K) {dy on c : Nat} (hd : dy < 4) (h : rch K dy on c = true) : agR K (row0 K dy) (mns on c) ≠ none := by
  have h6 := hW.n
  obtain ⟨x, h1, h2⟩ := rch_iff.mp h
  have hS : ∀ x, x ∈ (BfA K dy c).1 → x < 4 ^ K 93 ∧ ∀ p, p < K 93 → c.testBit p = false → dg (K 93) x p = dg (K 93) (row0 K dy) p := by
    refine BfA_snd (fun r p q t hr hpq hq b1_ b2_ ht => ⟨raK_lt hW (by omega) hq hr.1 ht, fun p' hp' hb => ?_⟩) ⟨row0_lt hW hd, fun _ _ _ => rfl⟩
    rw [raK_dg hW (by omega) hq (by omega) hr.1 hp' (fun e => by subst e; rw [b1_] at hb; cases hb) (fun e => by subst e; rw [b2_] at hb; cases hb) ht]
    exact hr.2 p' hp' hb
  cases ha : agR K x on with
  | none => exact absurd ha h2
  | some v =>
    have hall := agr_all (fun p _ => dg_lt) ha
    obtain ⟨c', e, -⟩ := agr_one (mk := dg (K 93) (row0 K dy)) (on := (mns on c).testBit) (v := v) (i := K 93) (fun p hp ho => by
      rw [mns_bit (by omega)] at ho
      have hb : c.testBit p = false := by
        cases hh : c.testBit p with
        | true =>
          rw [hh, Bool.not_true, Bool.and_false] at ho
          cases ho
        | false => rfl
      have ho2 : on.testBit p = true := by
        cases hh : on.testBit p with
        | true => rfl
        | false =>
          rw [hh, Bool.false_and] at ho
          cases ho
      rw [← (hS x h1).2 p hp hb]
      exact hall p hp ho2)
    unfold agR
    rw [e]
    exact fun z => by cases z
/-- a company of the living that brings the roll there -/
def gdC (K : KT) (dy on c : Nat) : Prop := mns c (lmK K) = 0 ∧ rch K dy on c = true
set_option maxRecDepth 20000 in
theorem sub_bit {c w p : Nat} (hp : p < 32) (h : mns c w = 0) (hc : c.testBit p = true) : w.testBit p = true := by
  have := mns_bit (a := c) (c := w) hp
  rw [h, Nat.zero_testBit, hc] at this
  cases hw : w.testBit p with
  | true => rfl
  | false => rw [hw] at this; cases this
set_option maxRecDepth 20000 in
theorem sub_le {c w : Nat} (hc : c < 64) (h : mns c w = 0) : c ≤ w := by
  have e : c &&& w = c := by
    apply Nat.eq_of_testBit_eq
    intro i
    rw [Nat.testBit_and]
    cases hi : c.testBit i with
    | false => rfl
    | true =>
      have hil : i < 32 := Nat.lt_of_not_le (fun z => by
        have := Nat.testBit_lt_two_pow (x := c) (i := i) (Nat.lt_of_lt_of_le hc (Nat.le_trans (show 64 ≤ 2 ^ 6 by decide) (Nat.pow_le_pow_right (by omega) (by omega))))
        rw [hi] at this
        cases this)
      rw [sub_bit hil h hi]; rfl
  rw [← e]
  exact Nat.and_le_right
set_option maxRecDepth 20000 in
theorem gd_lm {K : KT} (hW : WF K) {dy on c : Nat} (hd : dy < 4) (hc : c < 64) (h : gdC K dy on c) : rch K dy on (lmK K) = true := by
  refine rch_mono hW hd (fun p hp => ?_) h.2
  have hil : p < 32 := Nat.lt_of_not_le (fun z => by
    have := Nat.testBit_lt_two_pow (x := c) (i := p) (Nat.lt_of_lt_of_le hc (Nat.le_trans (show 64 ≤ 2 ^ 6 by decide) (Nat.pow_le_pow_right (by omega) (by omega))))
    rw [hp] at this
    cases this)
  exact sub_bit hil h.1 hp
set_option maxRecDepth 20000 in
theorem mns_self {w : Nat} (hw : w < 64) : mns w w = 0 := by
  apply Nat.eq_of_testBit_eq
  intro i
  rw [Nat.zero_testBit]
  by_cases hi : i < 32
  · rw [mns_bit hi]; cases w.testBit i <;> rfl
  · rw [Nat.testBit_and, Nat.testBit_lt_two_pow (x := w) (i := i) (Nat.lt_of_lt_of_le hw (Nat.le_trans (show 64 ≤ 2 ^ 6 by decide) (Nat.pow_le_pow_right (by omega) (by omega))))]
    rfl
/-- the least company: by its size, then by its number -/
def lstC (K : KT) (dy on : Nat) (b : Option Nat) : Prop := (b = none ∧ ∀ c, c < 64 → ¬ gdC K dy on c) ∨ ∃ x, b = some x ∧ x < 64 ∧ gdC K dy on x ∧ ∀ c, c < 64 → gdC K dy on c → popN x 6 < popN c 6 ∨ (popN x 6 = popN c 6 ∧ x ≤ c)
set_option maxRecDepth 20000 in
theorem lstC_uni {K : KT} {dy on : Nat} {a b : Option Nat} (h1 : lstC K dy on a) (h2 : lstC K dy on b) : a = b := by
  rcases h1 with ⟨e1, n1⟩ | ⟨x, e1, x1, x2, x3⟩
  · rcases h2 with ⟨e2, n2⟩ | ⟨y, e2, y1, y2, y3⟩
    · rw [e1, e2]
    · exact absurd y2 (n1 y y1)
  · rcases h2 with ⟨e2, n2⟩ | ⟨y, e2, y1, y2, y3⟩
    · exact absurd x2 (n2 x x1)
    · have a1 := x3 y y1 y2
      have a2 := y3 x x1 x2
      rw [e1, e2, show x = y by omega]
