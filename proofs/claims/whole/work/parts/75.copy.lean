/-! ===== image, back ===== -/
section XRef
variable {S : SPr} {d : Nat} {M : MI} {pc nx x y : Nat} {v : Int32} {w : Int64} {ls ls' st : List Value} {lay : HL} {VI : VIT} {VL : VLT} {VR : VRT} {bc bs : Nat} {P : Post}
set_option maxRecDepth 20000 in
theorem x_aal5R {a n j b : Nat} {i : Int32} (hc : lkp (mC M) pc = some (.aaload, 1, nx, x, y, v, w)) (hy : lay[a]? = some (.inl (5, n))) (e : i = nI j) (hj : j < n) (hu : VR a j = .ref b) (k : ExS S d M nx ls (.ref b :: st) lay VI VL VR bc bs P) (hn : Nat.blt n 2147483648 = true := by rfl) : ExS S d M pc ls (.int i :: .ref a :: st) lay VI VL VR bc bs P := by
  have hn2 : n < 2147483648 := by simpa using hn
  subst e
  exact x_aaload5 hc hy (vp_in_nI hj (by omega)) (by rw [nI_clamp (by omega)]; exact hu) k
set_option maxRecDepth 20000 in
theorem x_aal5Z {a n j : Nat} {i : Int32} (hc : lkp (mC M) pc = some (.aaload, 1, nx, x, y, v, w)) (hy : lay[a]? = some (.inl (5, n))) (e : i = nI j) (hj : j < n) (hu : VR a j = .null) (k : ExS S d M nx ls (.null :: st) lay VI VL VR bc bs P) (hn : Nat.blt n 2147483648 = true := by rfl) : ExS S d M pc ls (.int i :: .ref a :: st) lay VI VL VR bc bs P := by
  have hn2 : n < 2147483648 := by simpa using hn
  subst e
  exact x_aaload5N hc hy (vp_in_nI hj (by omega)) (by rw [nI_clamp (by omega)]; exact hu) k
set_option maxRecDepth 20000 in
theorem x_aas5R {a n j b : Nat} {i : Int32} (hc : lkp (mC M) pc = some (.aastore, 1, nx, x, y, v, w)) (hy : lay[a]? = some (.inl (5, n))) (hb : lay[b]? = some (.inr 9)) (e : i = nI j) (hj : j < n) (k : ExS S d M nx ls st lay VI VL (up VR a j (.ref b)) bc bs P) (hn : Nat.blt n 2147483648 = true := by rfl) : ExS S d M pc ls (.ref b :: .int i :: .ref a :: st) lay VI VL VR bc bs P := by
  have hn2 : n < 2147483648 := by simpa using hn
  subst e
  refine x_aastore5 hc hy hb (vp_in_nI hj (by omega)) ?_
  rw [nI_clamp (by omega)]
  exact k
set_option maxRecDepth 20000 in
theorem x_aas5Z {a n j : Nat} {i : Int32} (hc : lkp (mC M) pc = some (.aastore, 1, nx, x, y, v, w)) (hy : lay[a]? = some (.inl (5, n))) (e : i = nI j) (hj : j < n) (k : ExS S d M nx ls st lay VI VL (up VR a j .null) bc bs P) (hn : Nat.blt n 2147483648 = true := by rfl) : ExS S d M pc ls (.null :: .int i :: .ref a :: st) lay VI VL VR bc bs P := by
  have hn2 : n < 2147483648 := by simpa using hn
  subst e
  refine x_aastore5N hc hy (vp_in_nI hj (by omega)) ?_
  rw [nI_clamp (by omega)]
  exact k
end XRef
-- the row of texts at a with the first i of those at c
def cpG (G : VRT) (a c i : Nat) : VRT := fun b k => if b = a ∧ k < i then G c k else G b k
set_option maxRecDepth 20000 in
theorem cpG_step {G : VRT} {a c i : Nat} {z : Value} (hac : a ≠ c) (hz : G c i = z) (ha : VRT0[a]? = some none) : up (vr (cpG G a c i)) a i z = vr (cpG G a c (i + 1)) := by
  funext b k
  by_cases h : b = a
  · subst h
    simp only [up, if_true]
    unfold vr
    rw [ha]
    show (if k = i then z else cpG G b c i b k) = cpG G b c (i + 1) b k
    unfold cpG
    by_cases hk : k = i
    · subst hk
      rw [if_pos rfl, if_pos ⟨rfl, by omega⟩]; exact hz.symm
    · rw [if_neg hk]
      by_cases h2 : k < i
      · rw [if_pos ⟨rfl, h2⟩, if_pos ⟨rfl, by omega⟩]
      · rw [if_neg (by omega), if_neg (by omega)]
  · rw [up_ne h]
    unfold vr
    split
    · rfl
    · unfold cpG
      rw [if_neg (by omega), if_neg (by omega)]
set_option maxRecDepth 20000 in
theorem cpG_0 {G : VRT} {a c : Nat} : cpG G a c 0 = G := by
  funext b k
  unfold cpG
  rw [if_neg (by omega)]
def CpW (w z : Nat) (VI VI' : VIT) : Prop := (∀ k, (k = 0 ∨ k = 1 ∨ k = 5 ∨ k = 6 ∨ k = 9 ∨ k = 14 ∨ k = 15) → VI' w k = VI z k) ∧ (∀ p, p < 6 → VI' (w + 1) p = VI (z + 1) p ∧ VI' (w + 2) p = VI (z + 2) p) ∧ (∀ i, i < 24 → VI' (w + 3) i = VI (z + 3) i) ∧ (∀ r, r < 8 → VI' (w + 4) r = VI (z + 4) r ∧ VI' (w + 5) r = VI (z + 5) r ∧ VI' (w + 6) r = VI (z + 6) r ∧ VI' (w + 7) r = VI (z + 7) r ∧ VI' (w + 8) r = VI (z + 8) r) ∧ (∀ i, i < 3 → VI' (w + 9) i = VI (z + 9) i) ∧ ∀ a, (a < w ∨ w + 9 < a) → VI' a = VI a
set_option maxRecDepth 20000 in
theorem RW.cpw {w z : Nat} {K : KT} {VI VI' : VIT} (h : RW z K VI) (hW : WF K) (hc : CpW w z VI VI') : RW w K VI' := by
  have h6 := hW.n
  have h8 : K 94 ≤ 8 := hW.2.1
  have h95 : K 95 ≤ 8 := hW.2.2.1
  obtain ⟨w1, w2, w3, w4, w5, w6, w7, w8, w9, w10, w11, w12, w13, w14⟩ := h
  obtain ⟨c1, c2, c3, c4, c5, c6⟩ := hc
  refine ⟨?_, ?_, ?_, ?_, ?_, ?_, ?_, fun p hp => ?_, fun p q hp hq => ?_, fun r hr => ?_, fun k hk => ?_, ?_, ?_, ?_⟩
  · rw [c1 0 (by omega)]; exact w1
  · rw [c1 1 (by omega)]; exact w2
  · rw [c1 5 (by omega)]; exact w3
  · rw [c1 6 (by omega)]; exact w4
  · rw [c1 9 (by omega)]; exact w5
  · rw [c1 14 (by omega)]; exact w6
  · rw [c1 15 (by omega)]; exact w7
  · rw [(c2 p (by omega)).1, (c2 p (by omega)).2]; exact w8 p hp
  · rw [c3 _ (by omega)]; exact w9 p q hp hq
  · rw [(c4 r (by omega)).1, (c4 r (by omega)).2.1]; exact w10 r hr
  · rw [(c4 k (by omega)).2.2.1, (c4 k (by omega)).2.2.2.1, (c4 k (by omega)).2.2.2.2]; exact w11 k hk
  · rw [c5 0 (by omega)]; exact w12
  · rw [c5 1 (by omega)]; exact w13
  · rw [c5 2 (by omega)]; exact w14
set_option maxRecDepth 20000 in
theorem vr_hi {G : VRT} {b : Nat} (h : 100 ≤ b) (k : Nat) : vr G b k = G b k := by
  unfold vr
  rw [List.getElem?_eq_none (by have : VRT0.length = 100 := rfl; omega)]
set_option maxRecDepth 20000 in
theorem Laws.cpw {a c : Nat} {K : KT} {lay : HL} {VI VI' : VIT} {G G' : VRT} (h : Laws K c lay VI (vr G)) (hW : WF K) (ha : VRT0[a]? = some none) (hc : VRT0[c]? = some none) (hg : G' = cpG G a c 6) (ha2 : a < 100) (hV : ∀ b, 100 ≤ b → VI' b = VI b) : Laws K a lay VI' (vr G') := by
  have h6 := hW.l6
  subst hg
  intro t ht
  obtain ⟨b, h1, h2, h3, h4⟩ := h.sameV h6 hV t ht
  have hb : 100 ≤ b := h4.2.2.1
  have hba : b ≠ a := Nat.ne_of_gt (Nat.lt_of_lt_of_le ha2 hb)
  refine ⟨b, ?_, ?_, ?_, h4⟩
  · unfold vr at h1 ⊢
    rw [hc] at h1
    rw [ha]
    show cpG G a c 6 a t = _
    unfold cpG
    rw [if_pos ⟨rfl, by omega⟩]; exact h1
  · rw [vr_hi hb] at h2 ⊢
    unfold cpG
    rw [if_neg (fun z => hba z.1)]; exact h2
  · rw [vr_hi hb] at h3 ⊢
    unfold cpG
    rw [if_neg (fun z => hba z.1)]; exact h3
set_option maxRecDepth 20000 in
theorem Laws.off {a c w : Nat} {K : KT} {lay : HL} {VI VI' : VIT} {G : VRT} (h : Laws K w lay VI (vr G)) (hW : WF K) (hw : w ≠ a) (ha2 : a < 100) (hV : ∀ b, 100 ≤ b → VI' b = VI b) : Laws K w lay VI' (vr (cpG G a c 6)) := by
  have h6 := hW.l6
  have e : ∀ b k, b ≠ a → vr (cpG G a c 6) b k = vr G b k := by
    intro b k hb
    unfold vr
    split
    · rfl
    · unfold cpG
      rw [if_neg (by omega)]
  intro t ht
  obtain ⟨b, h1, h2, h3, h4⟩ := h.sameV h6 hV t ht
  have hb : 100 ≤ b := h4.2.2.1
  have hba : b ≠ a := Nat.ne_of_gt (Nat.lt_of_lt_of_le ha2 hb)
  exact ⟨b, by rw [e w t hw]; exact h1, by rw [e b 0 hba]; exact h2, by rw [e b 1 hba]; exact h3, h4⟩
set_option maxRecDepth 20000 in
theorem Refs.cp {a c : Nat} {lay : HL} {G : VRT} (h : Refs lay (vr G)) (ha : VRT0[a]? = some none) (hc : VRT0[c]? = some none) (hw : c = 13 ∨ c = 25 ∨ c = 36 ∨ c = 57) : Refs lay (vr (cpG G a c 6)) := by
  intro w hw2 i hi
  by_cases e : w = a
  · subst e
    have h1 := h c hw i hi
    unfold vr at h1 ⊢
    rw [hc] at h1
    rw [ha]
    show cpG G w c 6 w i = .null ∨ ∃ b, cpG G w c 6 w i = .ref b ∧ _
    unfold cpG
    rw [if_pos ⟨rfl, by omega⟩]; exact h1
  · have h1 := h w hw2 i hi
    have q : vr (cpG G a c 6) w i = vr G w i := by
      unfold vr
      split
      · rfl
      · unfold cpG
        rw [if_neg (by omega)]
    rw [q]; exact h1
section Copy
variable {d : Nat} {VI : VIT} {VL : VLT} {G : VRT} {P : Post} {ext : HL}
def cw_15_3 (VI : VIT) : VIT := uw (uw (uw (uw (uw (uw (uw (uw (uw (up (up (up (up (up (up (up VI 15 0 (VI 3 0)) 15 1 (VI 3 1)) 15 5 (VI 3 5)) 15 6 (VI 3 6)) 15 9 (VI 3 9)) 15 14 (VI 3 14)) 15 15 (VI 3 15)) 16 (va_cpy (VI 4) (VI 16) 0 0 6)) 17 (va_cpy (VI 5) (VI 17) 0 0 6)) 18 (va_cpy (VI 6) (VI 18) 0 0 24)) 19 (va_cpy (VI 7) (VI 19) 0 0 8)) 20 (va_cpy (VI 8) (VI 20) 0 0 8)) 21 (va_cpy (VI 9) (VI 21) 0 0 8)) 22 (va_cpy (VI 10) (VI 22) 0 0 8)) 23 (va_cpy (VI 11) (VI 23) 0 0 8)) 24 (va_cpy (VI 12) (VI 24) 0 0 3)
set_option maxRecDepth 20000 in
theorem cw_15_3_ok : CpW 15 3 VI (cw_15_3 VI) := by
  refine ⟨fun k hk => ?_, fun p hp => ⟨?_, ?_⟩, fun i hi => ?_, fun r hr => ⟨?_, ?_, ?_, ?_, ?_⟩, fun i hi => ?_, fun a ha => ?_⟩
  · rcases hk with rfl | rfl | rfl | rfl | rfl | rfl | rfl <;> rfl
  · show va_cpy (VI 4) (VI 16) 0 0 6 p = _
    rw [pk_cpy_in (by omega) (by omega), Nat.zero_add, Nat.sub_zero]
  · show va_cpy (VI 5) (VI 17) 0 0 6 p = _
    rw [pk_cpy_in (by omega) (by omega), Nat.zero_add, Nat.sub_zero]
  · show va_cpy (VI 6) (VI 18) 0 0 24 i = _
    rw [pk_cpy_in (by omega) (by omega), Nat.zero_add, Nat.sub_zero]
  · show va_cpy (VI 7) (VI 19) 0 0 8 r = _
    rw [pk_cpy_in (by omega) (by omega), Nat.zero_add, Nat.sub_zero]
  · show va_cpy (VI 8) (VI 20) 0 0 8 r = _
    rw [pk_cpy_in (by omega) (by omega), Nat.zero_add, Nat.sub_zero]
  · show va_cpy (VI 9) (VI 21) 0 0 8 r = _
    rw [pk_cpy_in (by omega) (by omega), Nat.zero_add, Nat.sub_zero]
  · show va_cpy (VI 10) (VI 22) 0 0 8 r = _
    rw [pk_cpy_in (by omega) (by omega), Nat.zero_add, Nat.sub_zero]
  · show va_cpy (VI 11) (VI 23) 0 0 8 r = _
    rw [pk_cpy_in (by omega) (by omega), Nat.zero_add, Nat.sub_zero]
  · show va_cpy (VI 12) (VI 24) 0 0 3 i = _
    rw [pk_cpy_in (by omega) (by omega), Nat.zero_add, Nat.sub_zero]
  · unfold cw_15_3
    rw [uw_ne (by omega), uw_ne (by omega), uw_ne (by omega), uw_ne (by omega), uw_ne (by omega), uw_ne (by omega), uw_ne (by omega), uw_ne (by omega), uw_ne (by omega), up_ne (by omega), up_ne (by omega), up_ne (by omega), up_ne (by omega), up_ne (by omega), up_ne (by omega), up_ne (by omega)]
set_option maxRecDepth 20000 in
theorem s_copyL_15_3 {V : VIT} (hR : Refs (LY ++ ext) (vr G)) (hP : P none (LY ++ ext) V VL (vr (cpG G 25 13 6))) : ∀ (m i : Nat), i + m = 6 → Ex (d + 0) mi89 192 [.ref 15, .ref 3, .int (nI i)] [] (LY ++ ext) V VL (vr (cpG G 25 13 i)) 0 0 P := by
  intro m
  induction m with
  | zero =>
    intro i hi
    have e : i = 6 := by omega
    subst e
    refine x_iload_n rfl rfl ?_
    refine x_bipushN (q := 6) rfl ?_
    refine x_icmpN_ge rfl (fun c195 => ?_) (fun c195 => ?_)
    rotate_left
    · exact absurd c195 (by first | decide | omega)
    refine x_vret rfl rfl ?_
    exact hP | succ m ih =>
    intro i hi
    have hv : vr (cpG G 25 13 i) 13 i = G 13 i := by
      show cpG G 25 13 i 13 i = _
      unfold cpG
      rw [if_neg (by omega)]
    rcases hR 13 (by omega) i (by omega) with h0 | ⟨b, h0, hb⟩
    · have h1 : G 13 i = .null := h0
      refine x_iload_n rfl rfl ?_
      refine x_bipushN (q := 6) rfl ?_
      refine x_icmpN_ge rfl (fun c195 => ?_) (fun c195 => ?_)
      · exact absurd c195 (by first | decide | omega)
      refine x_aload_n rfl rfl ?_
      refine x_getR (u := .ref _) rfl rfl rfl rfl ?_
      refine x_iload_n rfl rfl ?_
      refine x_aload_n rfl rfl ?_
      refine x_getR (u := .ref _) rfl rfl rfl rfl ?_
      refine x_iload_n rfl rfl ?_
      refine x_aal5Z (j := i) rfl rfl rfl (by omega) (hv.trans h1) ?_
      refine x_aas5Z (j := i) rfl rfl rfl (by omega) ?_
      refine x_iincN (q := 1) (ls' := [_, _, _]) rfl rfl rfl rfl ?_
      refine x_goto rfl ?_
      rw [cpG_step (by decide) h1 rfl]
      exact ih (i + 1) (by omega)
    · have h1 : G 13 i = .ref b := h0
      refine x_iload_n rfl rfl ?_
      refine x_bipushN (q := 6) rfl ?_
      refine x_icmpN_ge rfl (fun c195 => ?_) (fun c195 => ?_)
      · exact absurd c195 (by first | decide | omega)
      refine x_aload_n rfl rfl ?_
      refine x_getR (u := .ref _) rfl rfl rfl rfl ?_
      refine x_iload_n rfl rfl ?_
      refine x_aload_n rfl rfl ?_
      refine x_getR (u := .ref _) rfl rfl rfl rfl ?_
      refine x_iload_n rfl rfl ?_
      refine x_aal5R (j := i) (b := b) rfl rfl rfl (by omega) (hv.trans h1) ?_
      refine x_aas5R (j := i) (b := b) rfl rfl hb rfl (by omega) ?_
      refine x_iincN (q := 1) (ls' := [_, _, _]) rfl rfl rfl rfl ?_
      refine x_goto rfl ?_
      rw [cpG_step (by decide) h1 rfl]
      exact ih (i + 1) (by omega)
set_option maxRecDepth 20000 in
theorem s_copy_15_3 (hR : Refs (LY ++ ext) (vr G)) (hP : P none (LY ++ ext) (cw_15_3 VI) VL (vr (cpG G 25 13 6))) : Ex d mi89 0 (entL [.ref 15, .ref 3] 3) [] (LY ++ ext) VI VL (vr G) 0 0 P := by
  have hl := s_copyL_15_3 (d := d) (VL := VL) (G := G) (P := P) (ext := ext) (V := cw_15_3 VI) hR hP 6 0 (by omega)
  rw [cpG_0] at hl
  refine x_aload_n rfl rfl ?_
  refine x_aload_n rfl rfl ?_
  refine x_getI rfl rfl rfl ?_
  refine x_putI rfl rfl rfl rfl ?_
  refine x_aload_n rfl rfl ?_
  refine x_aload_n rfl rfl ?_
  refine x_getI rfl rfl rfl ?_
  refine x_putI rfl rfl rfl rfl ?_
  refine x_aload_n rfl rfl ?_
  refine x_aload_n rfl rfl ?_
  refine x_getI rfl rfl rfl ?_
  refine x_putI rfl rfl rfl rfl ?_
  refine x_aload_n rfl rfl ?_
  refine x_aload_n rfl rfl ?_
  refine x_getI rfl rfl rfl ?_
  refine x_putI rfl rfl rfl rfl ?_
  refine x_aload_n rfl rfl ?_
  refine x_aload_n rfl rfl ?_
  refine x_getI rfl rfl rfl ?_
  refine x_putI rfl rfl rfl rfl ?_
  refine x_aload_n rfl rfl ?_
  refine x_aload_n rfl rfl ?_
  refine x_getI rfl rfl rfl ?_
  refine x_putI rfl rfl rfl rfl ?_
  refine x_aload_n rfl rfl ?_
  refine x_aload_n rfl rfl ?_
  refine x_getI rfl rfl rfl ?_
  refine x_putI rfl rfl rfl rfl ?_
  refine x_aload_n rfl rfl ?_
  refine x_getR (u := .ref _) rfl rfl rfl rfl ?_
  refine x_iconst rfl ?_
  refine x_aload_n rfl rfl ?_
  refine x_getR (u := .ref _) rfl rfl rfl rfl ?_
  refine x_iconst rfl ?_
  refine x_bipush rfl ?_
  refine x_copy rfl rfl rfl (by decide) (by decide) (by decide) (by decide) (by decide) rfl ?_
  refine x_aload_n rfl rfl ?_
  refine x_getR (u := .ref _) rfl rfl rfl rfl ?_
  refine x_iconst rfl ?_
  refine x_aload_n rfl rfl ?_
  refine x_getR (u := .ref _) rfl rfl rfl rfl ?_
  refine x_iconst rfl ?_
  refine x_bipush rfl ?_
  refine x_copy rfl rfl rfl (by decide) (by decide) (by decide) (by decide) (by decide) rfl ?_
  refine x_aload_n rfl rfl ?_
  refine x_getR (u := .ref _) rfl rfl rfl rfl ?_
  refine x_iconst rfl ?_
  refine x_aload_n rfl rfl ?_
  refine x_getR (u := .ref _) rfl rfl rfl rfl ?_
  refine x_iconst rfl ?_
  refine x_bipush rfl ?_
  refine x_copy rfl rfl rfl (by decide) (by decide) (by decide) (by decide) (by decide) rfl ?_
  refine x_aload_n rfl rfl ?_
  refine x_getR (u := .ref _) rfl rfl rfl rfl ?_
  refine x_iconst rfl ?_
  refine x_aload_n rfl rfl ?_
  refine x_getR (u := .ref _) rfl rfl rfl rfl ?_
  refine x_iconst rfl ?_
  refine x_bipush rfl ?_
  refine x_copy rfl rfl rfl (by decide) (by decide) (by decide) (by decide) (by decide) rfl ?_
  refine x_aload_n rfl rfl ?_
  refine x_getR (u := .ref _) rfl rfl rfl rfl ?_
  refine x_iconst rfl ?_
  refine x_aload_n rfl rfl ?_
  refine x_getR (u := .ref _) rfl rfl rfl rfl ?_
  refine x_iconst rfl ?_
  refine x_bipush rfl ?_
  refine x_copy rfl rfl rfl (by decide) (by decide) (by decide) (by decide) (by decide) rfl ?_
  refine x_aload_n rfl rfl ?_
  refine x_getR (u := .ref _) rfl rfl rfl rfl ?_
  refine x_iconst rfl ?_
  refine x_aload_n rfl rfl ?_
  refine x_getR (u := .ref _) rfl rfl rfl rfl ?_
  refine x_iconst rfl ?_
  refine x_bipush rfl ?_
  refine x_copy rfl rfl rfl (by decide) (by decide) (by decide) (by decide) (by decide) rfl ?_
  refine x_aload_n rfl rfl ?_
  refine x_getR (u := .ref _) rfl rfl rfl rfl ?_
  refine x_iconst rfl ?_
  refine x_aload_n rfl rfl ?_
  refine x_getR (u := .ref _) rfl rfl rfl rfl ?_
  refine x_iconst rfl ?_
  refine x_bipush rfl ?_
  refine x_copy rfl rfl rfl (by decide) (by decide) (by decide) (by decide) (by decide) rfl ?_
  refine x_aload_n rfl rfl ?_
  refine x_getR (u := .ref _) rfl rfl rfl rfl ?_
  refine x_iconst rfl ?_
  refine x_aload_n rfl rfl ?_
  refine x_getR (u := .ref _) rfl rfl rfl rfl ?_
  refine x_iconst rfl ?_
  refine x_bipush rfl ?_
  refine x_copy rfl rfl rfl (by decide) (by decide) (by decide) (by decide) (by decide) rfl ?_
  refine x_aload_n rfl rfl ?_
  refine x_getR (u := .ref _) rfl rfl rfl rfl ?_
  refine x_iconst rfl ?_
  refine x_aload_n rfl rfl ?_
  refine x_getR (u := .ref _) rfl rfl rfl rfl ?_
  refine x_iconst rfl ?_
  refine x_iconst rfl ?_
  refine x_copy rfl rfl rfl (by decide) (by decide) (by decide) (by decide) (by decide) rfl ?_
  refine x_iconst rfl ?_
  refine x_istore_n (ls' := [_, _, _]) rfl rfl rfl ?_
  exact hl
def cw_26_3 (VI : VIT) : VIT := uw (uw (uw (uw (uw (uw (uw (uw (uw (up (up (up (up (up (up (up VI 26 0 (VI 3 0)) 26 1 (VI 3 1)) 26 5 (VI 3 5)) 26 6 (VI 3 6)) 26 9 (VI 3 9)) 26 14 (VI 3 14)) 26 15 (VI 3 15)) 27 (va_cpy (VI 4) (VI 27) 0 0 6)) 28 (va_cpy (VI 5) (VI 28) 0 0 6)) 29 (va_cpy (VI 6) (VI 29) 0 0 24)) 30 (va_cpy (VI 7) (VI 30) 0 0 8)) 31 (va_cpy (VI 8) (VI 31) 0 0 8)) 32 (va_cpy (VI 9) (VI 32) 0 0 8)) 33 (va_cpy (VI 10) (VI 33) 0 0 8)) 34 (va_cpy (VI 11) (VI 34) 0 0 8)) 35 (va_cpy (VI 12) (VI 35) 0 0 3)
set_option maxRecDepth 20000 in
theorem cw_26_3_ok : CpW 26 3 VI (cw_26_3 VI) := by
  refine ⟨fun k hk => ?_, fun p hp => ⟨?_, ?_⟩, fun i hi => ?_, fun r hr => ⟨?_, ?_, ?_, ?_, ?_⟩, fun i hi => ?_, fun a ha => ?_⟩
  · rcases hk with rfl | rfl | rfl | rfl | rfl | rfl | rfl <;> rfl
  · show va_cpy (VI 4) (VI 27) 0 0 6 p = _
    rw [pk_cpy_in (by omega) (by omega), Nat.zero_add, Nat.sub_zero]
  · show va_cpy (VI 5) (VI 28) 0 0 6 p = _
    rw [pk_cpy_in (by omega) (by omega), Nat.zero_add, Nat.sub_zero]
  · show va_cpy (VI 6) (VI 29) 0 0 24 i = _
    rw [pk_cpy_in (by omega) (by omega), Nat.zero_add, Nat.sub_zero]
  · show va_cpy (VI 7) (VI 30) 0 0 8 r = _
    rw [pk_cpy_in (by omega) (by omega), Nat.zero_add, Nat.sub_zero]
  · show va_cpy (VI 8) (VI 31) 0 0 8 r = _
    rw [pk_cpy_in (by omega) (by omega), Nat.zero_add, Nat.sub_zero]
  · show va_cpy (VI 9) (VI 32) 0 0 8 r = _
    rw [pk_cpy_in (by omega) (by omega), Nat.zero_add, Nat.sub_zero]
  · show va_cpy (VI 10) (VI 33) 0 0 8 r = _
    rw [pk_cpy_in (by omega) (by omega), Nat.zero_add, Nat.sub_zero]
  · show va_cpy (VI 11) (VI 34) 0 0 8 r = _
    rw [pk_cpy_in (by omega) (by omega), Nat.zero_add, Nat.sub_zero]
  · show va_cpy (VI 12) (VI 35) 0 0 3 i = _
    rw [pk_cpy_in (by omega) (by omega), Nat.zero_add, Nat.sub_zero]
  · unfold cw_26_3
    rw [uw_ne (by omega), uw_ne (by omega), uw_ne (by omega), uw_ne (by omega), uw_ne (by omega), uw_ne (by omega), uw_ne (by omega), uw_ne (by omega), uw_ne (by omega), up_ne (by omega), up_ne (by omega), up_ne (by omega), up_ne (by omega), up_ne (by omega), up_ne (by omega), up_ne (by omega)]
set_option maxRecDepth 20000 in
theorem s_copyL_26_3 {V : VIT} (hR : Refs (LY ++ ext) (vr G)) (hP : P none (LY ++ ext) V VL (vr (cpG G 36 13 6))) : ∀ (m i : Nat), i + m = 6 → Ex (d + 0) mi89 192 [.ref 26, .ref 3, .int (nI i)] [] (LY ++ ext) V VL (vr (cpG G 36 13 i)) 0 0 P := by
  intro m
  induction m with
  | zero =>
    intro i hi
    have e : i = 6 := by omega
    subst e
    refine x_iload_n rfl rfl ?_
    refine x_bipushN (q := 6) rfl ?_
    refine x_icmpN_ge rfl (fun c195 => ?_) (fun c195 => ?_)
    rotate_left
    · exact absurd c195 (by first | decide | omega)
    refine x_vret rfl rfl ?_
    exact hP | succ m ih =>
    intro i hi
    have hv : vr (cpG G 36 13 i) 13 i = G 13 i := by
      show cpG G 36 13 i 13 i = _
      unfold cpG
      rw [if_neg (by omega)]
    rcases hR 13 (by omega) i (by omega) with h0 | ⟨b, h0, hb⟩
    · have h1 : G 13 i = .null := h0
      refine x_iload_n rfl rfl ?_
      refine x_bipushN (q := 6) rfl ?_
      refine x_icmpN_ge rfl (fun c195 => ?_) (fun c195 => ?_)
      · exact absurd c195 (by first | decide | omega)
      refine x_aload_n rfl rfl ?_
      refine x_getR (u := .ref _) rfl rfl rfl rfl ?_
      refine x_iload_n rfl rfl ?_
      refine x_aload_n rfl rfl ?_
      refine x_getR (u := .ref _) rfl rfl rfl rfl ?_
      refine x_iload_n rfl rfl ?_
      refine x_aal5Z (j := i) rfl rfl rfl (by omega) (hv.trans h1) ?_
      refine x_aas5Z (j := i) rfl rfl rfl (by omega) ?_
      refine x_iincN (q := 1) (ls' := [_, _, _]) rfl rfl rfl rfl ?_
      refine x_goto rfl ?_
      rw [cpG_step (by decide) h1 rfl]
      exact ih (i + 1) (by omega)
    · have h1 : G 13 i = .ref b := h0
      refine x_iload_n rfl rfl ?_
      refine x_bipushN (q := 6) rfl ?_
      refine x_icmpN_ge rfl (fun c195 => ?_) (fun c195 => ?_)
      · exact absurd c195 (by first | decide | omega)
      refine x_aload_n rfl rfl ?_
      refine x_getR (u := .ref _) rfl rfl rfl rfl ?_
      refine x_iload_n rfl rfl ?_
      refine x_aload_n rfl rfl ?_
      refine x_getR (u := .ref _) rfl rfl rfl rfl ?_
      refine x_iload_n rfl rfl ?_
      refine x_aal5R (j := i) (b := b) rfl rfl rfl (by omega) (hv.trans h1) ?_
      refine x_aas5R (j := i) (b := b) rfl rfl hb rfl (by omega) ?_
      refine x_iincN (q := 1) (ls' := [_, _, _]) rfl rfl rfl rfl ?_
      refine x_goto rfl ?_
      rw [cpG_step (by decide) h1 rfl]
      exact ih (i + 1) (by omega)
set_option maxRecDepth 20000 in
theorem s_copy_26_3 (hR : Refs (LY ++ ext) (vr G)) (hP : P none (LY ++ ext) (cw_26_3 VI) VL (vr (cpG G 36 13 6))) : Ex d mi89 0 (entL [.ref 26, .ref 3] 3) [] (LY ++ ext) VI VL (vr G) 0 0 P := by
  have hl := s_copyL_26_3 (d := d) (VL := VL) (G := G) (P := P) (ext := ext) (V := cw_26_3 VI) hR hP 6 0 (by omega)
  rw [cpG_0] at hl
  refine x_aload_n rfl rfl ?_
  refine x_aload_n rfl rfl ?_
  refine x_getI rfl rfl rfl ?_
  refine x_putI rfl rfl rfl rfl ?_
  refine x_aload_n rfl rfl ?_
  refine x_aload_n rfl rfl ?_
  refine x_getI rfl rfl rfl ?_
  refine x_putI rfl rfl rfl rfl ?_
  refine x_aload_n rfl rfl ?_
  refine x_aload_n rfl rfl ?_
  refine x_getI rfl rfl rfl ?_
  refine x_putI rfl rfl rfl rfl ?_
  refine x_aload_n rfl rfl ?_
  refine x_aload_n rfl rfl ?_
  refine x_getI rfl rfl rfl ?_
  refine x_putI rfl rfl rfl rfl ?_
  refine x_aload_n rfl rfl ?_
  refine x_aload_n rfl rfl ?_
  refine x_getI rfl rfl rfl ?_
  refine x_putI rfl rfl rfl rfl ?_
  refine x_aload_n rfl rfl ?_
  refine x_aload_n rfl rfl ?_
  refine x_getI rfl rfl rfl ?_
  refine x_putI rfl rfl rfl rfl ?_
  refine x_aload_n rfl rfl ?_
  refine x_aload_n rfl rfl ?_
  refine x_getI rfl rfl rfl ?_
  refine x_putI rfl rfl rfl rfl ?_
  refine x_aload_n rfl rfl ?_
  refine x_getR (u := .ref _) rfl rfl rfl rfl ?_
  refine x_iconst rfl ?_
  refine x_aload_n rfl rfl ?_
  refine x_getR (u := .ref _) rfl rfl rfl rfl ?_
  refine x_iconst rfl ?_
  refine x_bipush rfl ?_
  refine x_copy rfl rfl rfl (by decide) (by decide) (by decide) (by decide) (by decide) rfl ?_
  refine x_aload_n rfl rfl ?_
  refine x_getR (u := .ref _) rfl rfl rfl rfl ?_
  refine x_iconst rfl ?_
  refine x_aload_n rfl rfl ?_
  refine x_getR (u := .ref _) rfl rfl rfl rfl ?_
  refine x_iconst rfl ?_
  refine x_bipush rfl ?_
  refine x_copy rfl rfl rfl (by decide) (by decide) (by decide) (by decide) (by decide) rfl ?_
  refine x_aload_n rfl rfl ?_
  refine x_getR (u := .ref _) rfl rfl rfl rfl ?_
  refine x_iconst rfl ?_
  refine x_aload_n rfl rfl ?_
  refine x_getR (u := .ref _) rfl rfl rfl rfl ?_
  refine x_iconst rfl ?_
  refine x_bipush rfl ?_
  refine x_copy rfl rfl rfl (by decide) (by decide) (by decide) (by decide) (by decide) rfl ?_
  refine x_aload_n rfl rfl ?_
  refine x_getR (u := .ref _) rfl rfl rfl rfl ?_
  refine x_iconst rfl ?_
  refine x_aload_n rfl rfl ?_
  refine x_getR (u := .ref _) rfl rfl rfl rfl ?_
  refine x_iconst rfl ?_
  refine x_bipush rfl ?_
  refine x_copy rfl rfl rfl (by decide) (by decide) (by decide) (by decide) (by decide) rfl ?_
  refine x_aload_n rfl rfl ?_
  refine x_getR (u := .ref _) rfl rfl rfl rfl ?_
  refine x_iconst rfl ?_
  refine x_aload_n rfl rfl ?_
  refine x_getR (u := .ref _) rfl rfl rfl rfl ?_
  refine x_iconst rfl ?_
  refine x_bipush rfl ?_
  refine x_copy rfl rfl rfl (by decide) (by decide) (by decide) (by decide) (by decide) rfl ?_
  refine x_aload_n rfl rfl ?_
  refine x_getR (u := .ref _) rfl rfl rfl rfl ?_
  refine x_iconst rfl ?_
  refine x_aload_n rfl rfl ?_
  refine x_getR (u := .ref _) rfl rfl rfl rfl ?_
  refine x_iconst rfl ?_
  refine x_bipush rfl ?_
  refine x_copy rfl rfl rfl (by decide) (by decide) (by decide) (by decide) (by decide) rfl ?_
  refine x_aload_n rfl rfl ?_
  refine x_getR (u := .ref _) rfl rfl rfl rfl ?_
  refine x_iconst rfl ?_
  refine x_aload_n rfl rfl ?_
  refine x_getR (u := .ref _) rfl rfl rfl rfl ?_
  refine x_iconst rfl ?_
  refine x_bipush rfl ?_
  refine x_copy rfl rfl rfl (by decide) (by decide) (by decide) (by decide) (by decide) rfl ?_
  refine x_aload_n rfl rfl ?_
  refine x_getR (u := .ref _) rfl rfl rfl rfl ?_
  refine x_iconst rfl ?_
  refine x_aload_n rfl rfl ?_
  refine x_getR (u := .ref _) rfl rfl rfl rfl ?_
  refine x_iconst rfl ?_
  refine x_bipush rfl ?_
  refine x_copy rfl rfl rfl (by decide) (by decide) (by decide) (by decide) (by decide) rfl ?_
  refine x_aload_n rfl rfl ?_
  refine x_getR (u := .ref _) rfl rfl rfl rfl ?_
  refine x_iconst rfl ?_
  refine x_aload_n rfl rfl ?_
  refine x_getR (u := .ref _) rfl rfl rfl rfl ?_
  refine x_iconst rfl ?_
  refine x_iconst rfl ?_
  refine x_copy rfl rfl rfl (by decide) (by decide) (by decide) (by decide) (by decide) rfl ?_
  refine x_iconst rfl ?_
  refine x_istore_n (ls' := [_, _, _]) rfl rfl rfl ?_
  exact hl
def cw_3_15 (VI : VIT) : VIT := uw (uw (uw (uw (uw (uw (uw (uw (uw (up (up (up (up (up (up (up VI 3 0 (VI 15 0)) 3 1 (VI 15 1)) 3 5 (VI 15 5)) 3 6 (VI 15 6)) 3 9 (VI 15 9)) 3 14 (VI 15 14)) 3 15 (VI 15 15)) 4 (va_cpy (VI 16) (VI 4) 0 0 6)) 5 (va_cpy (VI 17) (VI 5) 0 0 6)) 6 (va_cpy (VI 18) (VI 6) 0 0 24)) 7 (va_cpy (VI 19) (VI 7) 0 0 8)) 8 (va_cpy (VI 20) (VI 8) 0 0 8)) 9 (va_cpy (VI 21) (VI 9) 0 0 8)) 10 (va_cpy (VI 22) (VI 10) 0 0 8)) 11 (va_cpy (VI 23) (VI 11) 0 0 8)) 12 (va_cpy (VI 24) (VI 12) 0 0 3)
set_option maxRecDepth 20000 in
theorem cw_3_15_ok : CpW 3 15 VI (cw_3_15 VI) := by
  refine ⟨fun k hk => ?_, fun p hp => ⟨?_, ?_⟩, fun i hi => ?_, fun r hr => ⟨?_, ?_, ?_, ?_, ?_⟩, fun i hi => ?_, fun a ha => ?_⟩
  · rcases hk with rfl | rfl | rfl | rfl | rfl | rfl | rfl <;> rfl
  · show va_cpy (VI 16) (VI 4) 0 0 6 p = _
    rw [pk_cpy_in (by omega) (by omega), Nat.zero_add, Nat.sub_zero]
  · show va_cpy (VI 17) (VI 5) 0 0 6 p = _
    rw [pk_cpy_in (by omega) (by omega), Nat.zero_add, Nat.sub_zero]
  · show va_cpy (VI 18) (VI 6) 0 0 24 i = _
    rw [pk_cpy_in (by omega) (by omega), Nat.zero_add, Nat.sub_zero]
  · show va_cpy (VI 19) (VI 7) 0 0 8 r = _
    rw [pk_cpy_in (by omega) (by omega), Nat.zero_add, Nat.sub_zero]
  · show va_cpy (VI 20) (VI 8) 0 0 8 r = _
    rw [pk_cpy_in (by omega) (by omega), Nat.zero_add, Nat.sub_zero]
  · show va_cpy (VI 21) (VI 9) 0 0 8 r = _
    rw [pk_cpy_in (by omega) (by omega), Nat.zero_add, Nat.sub_zero]
  · show va_cpy (VI 22) (VI 10) 0 0 8 r = _
    rw [pk_cpy_in (by omega) (by omega), Nat.zero_add, Nat.sub_zero]
  · show va_cpy (VI 23) (VI 11) 0 0 8 r = _
    rw [pk_cpy_in (by omega) (by omega), Nat.zero_add, Nat.sub_zero]
  · show va_cpy (VI 24) (VI 12) 0 0 3 i = _
    rw [pk_cpy_in (by omega) (by omega), Nat.zero_add, Nat.sub_zero]
  · unfold cw_3_15
    rw [uw_ne (by omega), uw_ne (by omega), uw_ne (by omega), uw_ne (by omega), uw_ne (by omega), uw_ne (by omega), uw_ne (by omega), uw_ne (by omega), uw_ne (by omega), up_ne (by omega), up_ne (by omega), up_ne (by omega), up_ne (by omega), up_ne (by omega), up_ne (by omega), up_ne (by omega)]
set_option maxRecDepth 20000 in
theorem s_copyL_3_15 {V : VIT} (hR : Refs (LY ++ ext) (vr G)) (hP : P none (LY ++ ext) V VL (vr (cpG G 13 25 6))) : ∀ (m i : Nat), i + m = 6 → Ex (d + 0) mi89 192 [.ref 3, .ref 15, .int (nI i)] [] (LY ++ ext) V VL (vr (cpG G 13 25 i)) 0 0 P := by
  intro m
  induction m with
  | zero =>
    intro i hi
    have e : i = 6 := by omega
    subst e
    refine x_iload_n rfl rfl ?_
    refine x_bipushN (q := 6) rfl ?_
    refine x_icmpN_ge rfl (fun c195 => ?_) (fun c195 => ?_)
    rotate_left
    · exact absurd c195 (by first | decide | omega)
    refine x_vret rfl rfl ?_
    exact hP | succ m ih =>
    intro i hi
    have hv : vr (cpG G 13 25 i) 25 i = G 25 i := by
      show cpG G 13 25 i 25 i = _
      unfold cpG
      rw [if_neg (by omega)]
    rcases hR 25 (by omega) i (by omega) with h0 | ⟨b, h0, hb⟩
    · have h1 : G 25 i = .null := h0
      refine x_iload_n rfl rfl ?_
      refine x_bipushN (q := 6) rfl ?_
      refine x_icmpN_ge rfl (fun c195 => ?_) (fun c195 => ?_)
      · exact absurd c195 (by first | decide | omega)
      refine x_aload_n rfl rfl ?_
      refine x_getR (u := .ref _) rfl rfl rfl rfl ?_
      refine x_iload_n rfl rfl ?_
      refine x_aload_n rfl rfl ?_
      refine x_getR (u := .ref _) rfl rfl rfl rfl ?_
      refine x_iload_n rfl rfl ?_
      refine x_aal5Z (j := i) rfl rfl rfl (by omega) (hv.trans h1) ?_
      refine x_aas5Z (j := i) rfl rfl rfl (by omega) ?_
      refine x_iincN (q := 1) (ls' := [_, _, _]) rfl rfl rfl rfl ?_
      refine x_goto rfl ?_
      rw [cpG_step (by decide) h1 rfl]
      exact ih (i + 1) (by omega)
    · have h1 : G 25 i = .ref b := h0
      refine x_iload_n rfl rfl ?_
      refine x_bipushN (q := 6) rfl ?_
      refine x_icmpN_ge rfl (fun c195 => ?_) (fun c195 => ?_)
      · exact absurd c195 (by first | decide | omega)
      refine x_aload_n rfl rfl ?_
      refine x_getR (u := .ref _) rfl rfl rfl rfl ?_
      refine x_iload_n rfl rfl ?_
      refine x_aload_n rfl rfl ?_
      refine x_getR (u := .ref _) rfl rfl rfl rfl ?_
      refine x_iload_n rfl rfl ?_
      refine x_aal5R (j := i) (b := b) rfl rfl rfl (by omega) (hv.trans h1) ?_
      refine x_aas5R (j := i) (b := b) rfl rfl hb rfl (by omega) ?_
      refine x_iincN (q := 1) (ls' := [_, _, _]) rfl rfl rfl rfl ?_
      refine x_goto rfl ?_
      rw [cpG_step (by decide) h1 rfl]
      exact ih (i + 1) (by omega)
set_option maxRecDepth 20000 in
theorem s_copy_3_15 (hR : Refs (LY ++ ext) (vr G)) (hP : P none (LY ++ ext) (cw_3_15 VI) VL (vr (cpG G 13 25 6))) : Ex d mi89 0 (entL [.ref 3, .ref 15] 3) [] (LY ++ ext) VI VL (vr G) 0 0 P := by
  have hl := s_copyL_3_15 (d := d) (VL := VL) (G := G) (P := P) (ext := ext) (V := cw_3_15 VI) hR hP 6 0 (by omega)
  rw [cpG_0] at hl
  refine x_aload_n rfl rfl ?_
  refine x_aload_n rfl rfl ?_
  refine x_getI rfl rfl rfl ?_
  refine x_putI rfl rfl rfl rfl ?_
  refine x_aload_n rfl rfl ?_
  refine x_aload_n rfl rfl ?_
  refine x_getI rfl rfl rfl ?_
  refine x_putI rfl rfl rfl rfl ?_
  refine x_aload_n rfl rfl ?_
  refine x_aload_n rfl rfl ?_
  refine x_getI rfl rfl rfl ?_
  refine x_putI rfl rfl rfl rfl ?_
  refine x_aload_n rfl rfl ?_
  refine x_aload_n rfl rfl ?_
  refine x_getI rfl rfl rfl ?_
  refine x_putI rfl rfl rfl rfl ?_
  refine x_aload_n rfl rfl ?_
  refine x_aload_n rfl rfl ?_
  refine x_getI rfl rfl rfl ?_
  refine x_putI rfl rfl rfl rfl ?_
  refine x_aload_n rfl rfl ?_
  refine x_aload_n rfl rfl ?_
  refine x_getI rfl rfl rfl ?_
  refine x_putI rfl rfl rfl rfl ?_
  refine x_aload_n rfl rfl ?_
  refine x_aload_n rfl rfl ?_
  refine x_getI rfl rfl rfl ?_
  refine x_putI rfl rfl rfl rfl ?_
  refine x_aload_n rfl rfl ?_
  refine x_getR (u := .ref _) rfl rfl rfl rfl ?_
  refine x_iconst rfl ?_
  refine x_aload_n rfl rfl ?_
  refine x_getR (u := .ref _) rfl rfl rfl rfl ?_
  refine x_iconst rfl ?_
  refine x_bipush rfl ?_
  refine x_copy rfl rfl rfl (by decide) (by decide) (by decide) (by decide) (by decide) rfl ?_
  refine x_aload_n rfl rfl ?_
  refine x_getR (u := .ref _) rfl rfl rfl rfl ?_
  refine x_iconst rfl ?_
  refine x_aload_n rfl rfl ?_
  refine x_getR (u := .ref _) rfl rfl rfl rfl ?_
  refine x_iconst rfl ?_
  refine x_bipush rfl ?_
  refine x_copy rfl rfl rfl (by decide) (by decide) (by decide) (by decide) (by decide) rfl ?_
  refine x_aload_n rfl rfl ?_
  refine x_getR (u := .ref _) rfl rfl rfl rfl ?_
  refine x_iconst rfl ?_
  refine x_aload_n rfl rfl ?_
  refine x_getR (u := .ref _) rfl rfl rfl rfl ?_
  refine x_iconst rfl ?_
  refine x_bipush rfl ?_
  refine x_copy rfl rfl rfl (by decide) (by decide) (by decide) (by decide) (by decide) rfl ?_
  refine x_aload_n rfl rfl ?_
  refine x_getR (u := .ref _) rfl rfl rfl rfl ?_
  refine x_iconst rfl ?_
  refine x_aload_n rfl rfl ?_
  refine x_getR (u := .ref _) rfl rfl rfl rfl ?_
  refine x_iconst rfl ?_
  refine x_bipush rfl ?_
  refine x_copy rfl rfl rfl (by decide) (by decide) (by decide) (by decide) (by decide) rfl ?_
  refine x_aload_n rfl rfl ?_
  refine x_getR (u := .ref _) rfl rfl rfl rfl ?_
  refine x_iconst rfl ?_
  refine x_aload_n rfl rfl ?_
  refine x_getR (u := .ref _) rfl rfl rfl rfl ?_
  refine x_iconst rfl ?_
  refine x_bipush rfl ?_
  refine x_copy rfl rfl rfl (by decide) (by decide) (by decide) (by decide) (by decide) rfl ?_
  refine x_aload_n rfl rfl ?_
  refine x_getR (u := .ref _) rfl rfl rfl rfl ?_
  refine x_iconst rfl ?_
  refine x_aload_n rfl rfl ?_
  refine x_getR (u := .ref _) rfl rfl rfl rfl ?_
  refine x_iconst rfl ?_
  refine x_bipush rfl ?_
  refine x_copy rfl rfl rfl (by decide) (by decide) (by decide) (by decide) (by decide) rfl ?_
  refine x_aload_n rfl rfl ?_
  refine x_getR (u := .ref _) rfl rfl rfl rfl ?_
  refine x_iconst rfl ?_
  refine x_aload_n rfl rfl ?_
  refine x_getR (u := .ref _) rfl rfl rfl rfl ?_
  refine x_iconst rfl ?_
  refine x_bipush rfl ?_
  refine x_copy rfl rfl rfl (by decide) (by decide) (by decide) (by decide) (by decide) rfl ?_
  refine x_aload_n rfl rfl ?_
  refine x_getR (u := .ref _) rfl rfl rfl rfl ?_
  refine x_iconst rfl ?_
  refine x_aload_n rfl rfl ?_
  refine x_getR (u := .ref _) rfl rfl rfl rfl ?_
  refine x_iconst rfl ?_
  refine x_bipush rfl ?_
  refine x_copy rfl rfl rfl (by decide) (by decide) (by decide) (by decide) (by decide) rfl ?_
  refine x_aload_n rfl rfl ?_
  refine x_getR (u := .ref _) rfl rfl rfl rfl ?_
  refine x_iconst rfl ?_
  refine x_aload_n rfl rfl ?_
  refine x_getR (u := .ref _) rfl rfl rfl rfl ?_
  refine x_iconst rfl ?_
  refine x_iconst rfl ?_
  refine x_copy rfl rfl rfl (by decide) (by decide) (by decide) (by decide) (by decide) rfl ?_
  refine x_iconst rfl ?_
  refine x_istore_n (ls' := [_, _, _]) rfl rfl rfl ?_
  exact hl
def cw_3_26 (VI : VIT) : VIT := uw (uw (uw (uw (uw (uw (uw (uw (uw (up (up (up (up (up (up (up VI 3 0 (VI 26 0)) 3 1 (VI 26 1)) 3 5 (VI 26 5)) 3 6 (VI 26 6)) 3 9 (VI 26 9)) 3 14 (VI 26 14)) 3 15 (VI 26 15)) 4 (va_cpy (VI 27) (VI 4) 0 0 6)) 5 (va_cpy (VI 28) (VI 5) 0 0 6)) 6 (va_cpy (VI 29) (VI 6) 0 0 24)) 7 (va_cpy (VI 30) (VI 7) 0 0 8)) 8 (va_cpy (VI 31) (VI 8) 0 0 8)) 9 (va_cpy (VI 32) (VI 9) 0 0 8)) 10 (va_cpy (VI 33) (VI 10) 0 0 8)) 11 (va_cpy (VI 34) (VI 11) 0 0 8)) 12 (va_cpy (VI 35) (VI 12) 0 0 3)
set_option maxRecDepth 20000 in
theorem cw_3_26_ok : CpW 3 26 VI (cw_3_26 VI) := by
  refine ⟨fun k hk => ?_, fun p hp => ⟨?_, ?_⟩, fun i hi => ?_, fun r hr => ⟨?_, ?_, ?_, ?_, ?_⟩, fun i hi => ?_, fun a ha => ?_⟩
  · rcases hk with rfl | rfl | rfl | rfl | rfl | rfl | rfl <;> rfl
  · show va_cpy (VI 27) (VI 4) 0 0 6 p = _
    rw [pk_cpy_in (by omega) (by omega), Nat.zero_add, Nat.sub_zero]
  · show va_cpy (VI 28) (VI 5) 0 0 6 p = _
    rw [pk_cpy_in (by omega) (by omega), Nat.zero_add, Nat.sub_zero]
  · show va_cpy (VI 29) (VI 6) 0 0 24 i = _
    rw [pk_cpy_in (by omega) (by omega), Nat.zero_add, Nat.sub_zero]
  · show va_cpy (VI 30) (VI 7) 0 0 8 r = _
    rw [pk_cpy_in (by omega) (by omega), Nat.zero_add, Nat.sub_zero]
  · show va_cpy (VI 31) (VI 8) 0 0 8 r = _
    rw [pk_cpy_in (by omega) (by omega), Nat.zero_add, Nat.sub_zero]
  · show va_cpy (VI 32) (VI 9) 0 0 8 r = _
    rw [pk_cpy_in (by omega) (by omega), Nat.zero_add, Nat.sub_zero]
  · show va_cpy (VI 33) (VI 10) 0 0 8 r = _
    rw [pk_cpy_in (by omega) (by omega), Nat.zero_add, Nat.sub_zero]
  · show va_cpy (VI 34) (VI 11) 0 0 8 r = _
    rw [pk_cpy_in (by omega) (by omega), Nat.zero_add, Nat.sub_zero]
  · show va_cpy (VI 35) (VI 12) 0 0 3 i = _
    rw [pk_cpy_in (by omega) (by omega), Nat.zero_add, Nat.sub_zero]
  · unfold cw_3_26
    rw [uw_ne (by omega), uw_ne (by omega), uw_ne (by omega), uw_ne (by omega), uw_ne (by omega), uw_ne (by omega), uw_ne (by omega), uw_ne (by omega), uw_ne (by omega), up_ne (by omega), up_ne (by omega), up_ne (by omega), up_ne (by omega), up_ne (by omega), up_ne (by omega), up_ne (by omega)]
set_option maxRecDepth 20000 in
theorem s_copyL_3_26 {V : VIT} (hR : Refs (LY ++ ext) (vr G)) (hP : P none (LY ++ ext) V VL (vr (cpG G 13 36 6))) : ∀ (m i : Nat), i + m = 6 → Ex (d + 0) mi89 192 [.ref 3, .ref 26, .int (nI i)] [] (LY ++ ext) V VL (vr (cpG G 13 36 i)) 0 0 P := by
  intro m
  induction m with
  | zero =>
    intro i hi
    have e : i = 6 := by omega
    subst e
    refine x_iload_n rfl rfl ?_
    refine x_bipushN (q := 6) rfl ?_
    refine x_icmpN_ge rfl (fun c195 => ?_) (fun c195 => ?_)
    rotate_left
    · exact absurd c195 (by first | decide | omega)
    refine x_vret rfl rfl ?_
    exact hP | succ m ih =>
    intro i hi
    have hv : vr (cpG G 13 36 i) 36 i = G 36 i := by
      show cpG G 13 36 i 36 i = _
      unfold cpG
      rw [if_neg (by omega)]
    rcases hR 36 (by omega) i (by omega) with h0 | ⟨b, h0, hb⟩
    · have h1 : G 36 i = .null := h0
      refine x_iload_n rfl rfl ?_
      refine x_bipushN (q := 6) rfl ?_
      refine x_icmpN_ge rfl (fun c195 => ?_) (fun c195 => ?_)
      · exact absurd c195 (by first | decide | omega)
      refine x_aload_n rfl rfl ?_
      refine x_getR (u := .ref _) rfl rfl rfl rfl ?_
      refine x_iload_n rfl rfl ?_
      refine x_aload_n rfl rfl ?_
      refine x_getR (u := .ref _) rfl rfl rfl rfl ?_
      refine x_iload_n rfl rfl ?_
      refine x_aal5Z (j := i) rfl rfl rfl (by omega) (hv.trans h1) ?_
      refine x_aas5Z (j := i) rfl rfl rfl (by omega) ?_
      refine x_iincN (q := 1) (ls' := [_, _, _]) rfl rfl rfl rfl ?_
      refine x_goto rfl ?_
      rw [cpG_step (by decide) h1 rfl]
      exact ih (i + 1) (by omega)
    · have h1 : G 36 i = .ref b := h0
      refine x_iload_n rfl rfl ?_
      refine x_bipushN (q := 6) rfl ?_
      refine x_icmpN_ge rfl (fun c195 => ?_) (fun c195 => ?_)
      · exact absurd c195 (by first | decide | omega)
      refine x_aload_n rfl rfl ?_
      refine x_getR (u := .ref _) rfl rfl rfl rfl ?_
      refine x_iload_n rfl rfl ?_
      refine x_aload_n rfl rfl ?_
      refine x_getR (u := .ref _) rfl rfl rfl rfl ?_
      refine x_iload_n rfl rfl ?_
      refine x_aal5R (j := i) (b := b) rfl rfl rfl (by omega) (hv.trans h1) ?_
      refine x_aas5R (j := i) (b := b) rfl rfl hb rfl (by omega) ?_
      refine x_iincN (q := 1) (ls' := [_, _, _]) rfl rfl rfl rfl ?_
      refine x_goto rfl ?_
      rw [cpG_step (by decide) h1 rfl]
      exact ih (i + 1) (by omega)
set_option maxRecDepth 20000 in
theorem s_copy_3_26 (hR : Refs (LY ++ ext) (vr G)) (hP : P none (LY ++ ext) (cw_3_26 VI) VL (vr (cpG G 13 36 6))) : Ex d mi89 0 (entL [.ref 3, .ref 26] 3) [] (LY ++ ext) VI VL (vr G) 0 0 P := by
  have hl := s_copyL_3_26 (d := d) (VL := VL) (G := G) (P := P) (ext := ext) (V := cw_3_26 VI) hR hP 6 0 (by omega)
  rw [cpG_0] at hl
  refine x_aload_n rfl rfl ?_
  refine x_aload_n rfl rfl ?_
  refine x_getI rfl rfl rfl ?_
  refine x_putI rfl rfl rfl rfl ?_
  refine x_aload_n rfl rfl ?_
  refine x_aload_n rfl rfl ?_
  refine x_getI rfl rfl rfl ?_
  refine x_putI rfl rfl rfl rfl ?_
  refine x_aload_n rfl rfl ?_
  refine x_aload_n rfl rfl ?_
  refine x_getI rfl rfl rfl ?_
  refine x_putI rfl rfl rfl rfl ?_
  refine x_aload_n rfl rfl ?_
  refine x_aload_n rfl rfl ?_
  refine x_getI rfl rfl rfl ?_
  refine x_putI rfl rfl rfl rfl ?_
  refine x_aload_n rfl rfl ?_
  refine x_aload_n rfl rfl ?_
  refine x_getI rfl rfl rfl ?_
  refine x_putI rfl rfl rfl rfl ?_
  refine x_aload_n rfl rfl ?_
  refine x_aload_n rfl rfl ?_
  refine x_getI rfl rfl rfl ?_
  refine x_putI rfl rfl rfl rfl ?_
  refine x_aload_n rfl rfl ?_
  refine x_aload_n rfl rfl ?_
  refine x_getI rfl rfl rfl ?_
  refine x_putI rfl rfl rfl rfl ?_
  refine x_aload_n rfl rfl ?_
  refine x_getR (u := .ref _) rfl rfl rfl rfl ?_
  refine x_iconst rfl ?_
  refine x_aload_n rfl rfl ?_
  refine x_getR (u := .ref _) rfl rfl rfl rfl ?_
  refine x_iconst rfl ?_
  refine x_bipush rfl ?_
  refine x_copy rfl rfl rfl (by decide) (by decide) (by decide) (by decide) (by decide) rfl ?_
  refine x_aload_n rfl rfl ?_
  refine x_getR (u := .ref _) rfl rfl rfl rfl ?_
  refine x_iconst rfl ?_
  refine x_aload_n rfl rfl ?_
  refine x_getR (u := .ref _) rfl rfl rfl rfl ?_
  refine x_iconst rfl ?_
  refine x_bipush rfl ?_
  refine x_copy rfl rfl rfl (by decide) (by decide) (by decide) (by decide) (by decide) rfl ?_
  refine x_aload_n rfl rfl ?_
  refine x_getR (u := .ref _) rfl rfl rfl rfl ?_
  refine x_iconst rfl ?_
  refine x_aload_n rfl rfl ?_
  refine x_getR (u := .ref _) rfl rfl rfl rfl ?_
  refine x_iconst rfl ?_
  refine x_bipush rfl ?_
  refine x_copy rfl rfl rfl (by decide) (by decide) (by decide) (by decide) (by decide) rfl ?_
  refine x_aload_n rfl rfl ?_
  refine x_getR (u := .ref _) rfl rfl rfl rfl ?_
  refine x_iconst rfl ?_
  refine x_aload_n rfl rfl ?_
  refine x_getR (u := .ref _) rfl rfl rfl rfl ?_
  refine x_iconst rfl ?_
  refine x_bipush rfl ?_
  refine x_copy rfl rfl rfl (by decide) (by decide) (by decide) (by decide) (by decide) rfl ?_
  refine x_aload_n rfl rfl ?_
  refine x_getR (u := .ref _) rfl rfl rfl rfl ?_
  refine x_iconst rfl ?_
  refine x_aload_n rfl rfl ?_
  refine x_getR (u := .ref _) rfl rfl rfl rfl ?_
  refine x_iconst rfl ?_
  refine x_bipush rfl ?_
  refine x_copy rfl rfl rfl (by decide) (by decide) (by decide) (by decide) (by decide) rfl ?_
  refine x_aload_n rfl rfl ?_
  refine x_getR (u := .ref _) rfl rfl rfl rfl ?_
  refine x_iconst rfl ?_
  refine x_aload_n rfl rfl ?_
  refine x_getR (u := .ref _) rfl rfl rfl rfl ?_
  refine x_iconst rfl ?_
  refine x_bipush rfl ?_
  refine x_copy rfl rfl rfl (by decide) (by decide) (by decide) (by decide) (by decide) rfl ?_
  refine x_aload_n rfl rfl ?_
  refine x_getR (u := .ref _) rfl rfl rfl rfl ?_
  refine x_iconst rfl ?_
  refine x_aload_n rfl rfl ?_
  refine x_getR (u := .ref _) rfl rfl rfl rfl ?_
  refine x_iconst rfl ?_
  refine x_bipush rfl ?_
  refine x_copy rfl rfl rfl (by decide) (by decide) (by decide) (by decide) (by decide) rfl ?_
  refine x_aload_n rfl rfl ?_
  refine x_getR (u := .ref _) rfl rfl rfl rfl ?_
  refine x_iconst rfl ?_
  refine x_aload_n rfl rfl ?_
  refine x_getR (u := .ref _) rfl rfl rfl rfl ?_
  refine x_iconst rfl ?_
  refine x_bipush rfl ?_
  refine x_copy rfl rfl rfl (by decide) (by decide) (by decide) (by decide) (by decide) rfl ?_
  refine x_aload_n rfl rfl ?_
  refine x_getR (u := .ref _) rfl rfl rfl rfl ?_
  refine x_iconst rfl ?_
  refine x_aload_n rfl rfl ?_
  refine x_getR (u := .ref _) rfl rfl rfl rfl ?_
  refine x_iconst rfl ?_
  refine x_iconst rfl ?_
  refine x_copy rfl rfl rfl (by decide) (by decide) (by decide) (by decide) (by decide) rfl ?_
  refine x_iconst rfl ?_
  refine x_istore_n (ls' := [_, _, _]) rfl rfl rfl ?_
  exact hl
def cw_47_3 (VI : VIT) : VIT := uw (uw (uw (uw (uw (uw (uw (uw (uw (up (up (up (up (up (up (up VI 47 0 (VI 3 0)) 47 1 (VI 3 1)) 47 5 (VI 3 5)) 47 6 (VI 3 6)) 47 9 (VI 3 9)) 47 14 (VI 3 14)) 47 15 (VI 3 15)) 48 (va_cpy (VI 4) (VI 48) 0 0 6)) 49 (va_cpy (VI 5) (VI 49) 0 0 6)) 50 (va_cpy (VI 6) (VI 50) 0 0 24)) 51 (va_cpy (VI 7) (VI 51) 0 0 8)) 52 (va_cpy (VI 8) (VI 52) 0 0 8)) 53 (va_cpy (VI 9) (VI 53) 0 0 8)) 54 (va_cpy (VI 10) (VI 54) 0 0 8)) 55 (va_cpy (VI 11) (VI 55) 0 0 8)) 56 (va_cpy (VI 12) (VI 56) 0 0 3)
set_option maxRecDepth 20000 in
theorem cw_47_3_ok : CpW 47 3 VI (cw_47_3 VI) := by
  refine ⟨fun k hk => ?_, fun p hp => ⟨?_, ?_⟩, fun i hi => ?_, fun r hr => ⟨?_, ?_, ?_, ?_, ?_⟩, fun i hi => ?_, fun a ha => ?_⟩
  · rcases hk with rfl | rfl | rfl | rfl | rfl | rfl | rfl <;> rfl
  · show va_cpy (VI 4) (VI 48) 0 0 6 p = _
    rw [pk_cpy_in (by omega) (by omega), Nat.zero_add, Nat.sub_zero]
  · show va_cpy (VI 5) (VI 49) 0 0 6 p = _
    rw [pk_cpy_in (by omega) (by omega), Nat.zero_add, Nat.sub_zero]
  · show va_cpy (VI 6) (VI 50) 0 0 24 i = _
    rw [pk_cpy_in (by omega) (by omega), Nat.zero_add, Nat.sub_zero]
  · show va_cpy (VI 7) (VI 51) 0 0 8 r = _
    rw [pk_cpy_in (by omega) (by omega), Nat.zero_add, Nat.sub_zero]
  · show va_cpy (VI 8) (VI 52) 0 0 8 r = _
    rw [pk_cpy_in (by omega) (by omega), Nat.zero_add, Nat.sub_zero]
  · show va_cpy (VI 9) (VI 53) 0 0 8 r = _
    rw [pk_cpy_in (by omega) (by omega), Nat.zero_add, Nat.sub_zero]
  · show va_cpy (VI 10) (VI 54) 0 0 8 r = _
    rw [pk_cpy_in (by omega) (by omega), Nat.zero_add, Nat.sub_zero]
  · show va_cpy (VI 11) (VI 55) 0 0 8 r = _
    rw [pk_cpy_in (by omega) (by omega), Nat.zero_add, Nat.sub_zero]
  · show va_cpy (VI 12) (VI 56) 0 0 3 i = _
    rw [pk_cpy_in (by omega) (by omega), Nat.zero_add, Nat.sub_zero]
  · unfold cw_47_3
    rw [uw_ne (by omega), uw_ne (by omega), uw_ne (by omega), uw_ne (by omega), uw_ne (by omega), uw_ne (by omega), uw_ne (by omega), uw_ne (by omega), uw_ne (by omega), up_ne (by omega), up_ne (by omega), up_ne (by omega), up_ne (by omega), up_ne (by omega), up_ne (by omega), up_ne (by omega)]
set_option maxRecDepth 20000 in
theorem s_copyL_47_3 {V : VIT} (hR : Refs (LY ++ ext) (vr G)) (hP : P none (LY ++ ext) V VL (vr (cpG G 57 13 6))) : ∀ (m i : Nat), i + m = 6 → Ex (d + 0) mi89 192 [.ref 47, .ref 3, .int (nI i)] [] (LY ++ ext) V VL (vr (cpG G 57 13 i)) 0 0 P := by
  intro m
  induction m with
  | zero =>
    intro i hi
    have e : i = 6 := by omega
    subst e
    refine x_iload_n rfl rfl ?_
    refine x_bipushN (q := 6) rfl ?_
    refine x_icmpN_ge rfl (fun c195 => ?_) (fun c195 => ?_)
    rotate_left
    · exact absurd c195 (by first | decide | omega)
    refine x_vret rfl rfl ?_
    exact hP | succ m ih =>
    intro i hi
    have hv : vr (cpG G 57 13 i) 13 i = G 13 i := by
      show cpG G 57 13 i 13 i = _
      unfold cpG
      rw [if_neg (by omega)]
    rcases hR 13 (by omega) i (by omega) with h0 | ⟨b, h0, hb⟩
    · have h1 : G 13 i = .null := h0
      refine x_iload_n rfl rfl ?_
      refine x_bipushN (q := 6) rfl ?_
      refine x_icmpN_ge rfl (fun c195 => ?_) (fun c195 => ?_)
      · exact absurd c195 (by first | decide | omega)
      refine x_aload_n rfl rfl ?_
      refine x_getR (u := .ref _) rfl rfl rfl rfl ?_
      refine x_iload_n rfl rfl ?_
      refine x_aload_n rfl rfl ?_
      refine x_getR (u := .ref _) rfl rfl rfl rfl ?_
      refine x_iload_n rfl rfl ?_
      refine x_aal5Z (j := i) rfl rfl rfl (by omega) (hv.trans h1) ?_
      refine x_aas5Z (j := i) rfl rfl rfl (by omega) ?_
      refine x_iincN (q := 1) (ls' := [_, _, _]) rfl rfl rfl rfl ?_
      refine x_goto rfl ?_
      rw [cpG_step (by decide) h1 rfl]
      exact ih (i + 1) (by omega)
    · have h1 : G 13 i = .ref b := h0
      refine x_iload_n rfl rfl ?_
      refine x_bipushN (q := 6) rfl ?_
      refine x_icmpN_ge rfl (fun c195 => ?_) (fun c195 => ?_)
      · exact absurd c195 (by first | decide | omega)
      refine x_aload_n rfl rfl ?_
      refine x_getR (u := .ref _) rfl rfl rfl rfl ?_
      refine x_iload_n rfl rfl ?_
      refine x_aload_n rfl rfl ?_
      refine x_getR (u := .ref _) rfl rfl rfl rfl ?_
      refine x_iload_n rfl rfl ?_
      refine x_aal5R (j := i) (b := b) rfl rfl rfl (by omega) (hv.trans h1) ?_
      refine x_aas5R (j := i) (b := b) rfl rfl hb rfl (by omega) ?_
      refine x_iincN (q := 1) (ls' := [_, _, _]) rfl rfl rfl rfl ?_
      refine x_goto rfl ?_
      rw [cpG_step (by decide) h1 rfl]
      exact ih (i + 1) (by omega)
set_option maxRecDepth 20000 in
theorem s_copy_47_3 (hR : Refs (LY ++ ext) (vr G)) (hP : P none (LY ++ ext) (cw_47_3 VI) VL (vr (cpG G 57 13 6))) : Ex d mi89 0 (entL [.ref 47, .ref 3] 3) [] (LY ++ ext) VI VL (vr G) 0 0 P := by
  have hl := s_copyL_47_3 (d := d) (VL := VL) (G := G) (P := P) (ext := ext) (V := cw_47_3 VI) hR hP 6 0 (by omega)
  rw [cpG_0] at hl
  refine x_aload_n rfl rfl ?_
  refine x_aload_n rfl rfl ?_
  refine x_getI rfl rfl rfl ?_
  refine x_putI rfl rfl rfl rfl ?_
  refine x_aload_n rfl rfl ?_
  refine x_aload_n rfl rfl ?_
  refine x_getI rfl rfl rfl ?_
  refine x_putI rfl rfl rfl rfl ?_
  refine x_aload_n rfl rfl ?_
  refine x_aload_n rfl rfl ?_
  refine x_getI rfl rfl rfl ?_
  refine x_putI rfl rfl rfl rfl ?_
  refine x_aload_n rfl rfl ?_
  refine x_aload_n rfl rfl ?_
  refine x_getI rfl rfl rfl ?_
  refine x_putI rfl rfl rfl rfl ?_
  refine x_aload_n rfl rfl ?_
  refine x_aload_n rfl rfl ?_
  refine x_getI rfl rfl rfl ?_
  refine x_putI rfl rfl rfl rfl ?_
  refine x_aload_n rfl rfl ?_
  refine x_aload_n rfl rfl ?_
  refine x_getI rfl rfl rfl ?_
  refine x_putI rfl rfl rfl rfl ?_
  refine x_aload_n rfl rfl ?_
  refine x_aload_n rfl rfl ?_
  refine x_getI rfl rfl rfl ?_
  refine x_putI rfl rfl rfl rfl ?_
  refine x_aload_n rfl rfl ?_
  refine x_getR (u := .ref _) rfl rfl rfl rfl ?_
  refine x_iconst rfl ?_
  refine x_aload_n rfl rfl ?_
  refine x_getR (u := .ref _) rfl rfl rfl rfl ?_
  refine x_iconst rfl ?_
  refine x_bipush rfl ?_
  refine x_copy rfl rfl rfl (by decide) (by decide) (by decide) (by decide) (by decide) rfl ?_
  refine x_aload_n rfl rfl ?_
  refine x_getR (u := .ref _) rfl rfl rfl rfl ?_
  refine x_iconst rfl ?_
  refine x_aload_n rfl rfl ?_
  refine x_getR (u := .ref _) rfl rfl rfl rfl ?_
  refine x_iconst rfl ?_
  refine x_bipush rfl ?_
  refine x_copy rfl rfl rfl (by decide) (by decide) (by decide) (by decide) (by decide) rfl ?_
  refine x_aload_n rfl rfl ?_
  refine x_getR (u := .ref _) rfl rfl rfl rfl ?_
  refine x_iconst rfl ?_
  refine x_aload_n rfl rfl ?_
  refine x_getR (u := .ref _) rfl rfl rfl rfl ?_
  refine x_iconst rfl ?_
  refine x_bipush rfl ?_
  refine x_copy rfl rfl rfl (by decide) (by decide) (by decide) (by decide) (by decide) rfl ?_
  refine x_aload_n rfl rfl ?_
  refine x_getR (u := .ref _) rfl rfl rfl rfl ?_
  refine x_iconst rfl ?_
  refine x_aload_n rfl rfl ?_
  refine x_getR (u := .ref _) rfl rfl rfl rfl ?_
  refine x_iconst rfl ?_
  refine x_bipush rfl ?_
  refine x_copy rfl rfl rfl (by decide) (by decide) (by decide) (by decide) (by decide) rfl ?_
  refine x_aload_n rfl rfl ?_
  refine x_getR (u := .ref _) rfl rfl rfl rfl ?_
  refine x_iconst rfl ?_
  refine x_aload_n rfl rfl ?_
  refine x_getR (u := .ref _) rfl rfl rfl rfl ?_
  refine x_iconst rfl ?_
  refine x_bipush rfl ?_
  refine x_copy rfl rfl rfl (by decide) (by decide) (by decide) (by decide) (by decide) rfl ?_
  refine x_aload_n rfl rfl ?_
  refine x_getR (u := .ref _) rfl rfl rfl rfl ?_
  refine x_iconst rfl ?_
  refine x_aload_n rfl rfl ?_
  refine x_getR (u := .ref _) rfl rfl rfl rfl ?_
  refine x_iconst rfl ?_
  refine x_bipush rfl ?_
  refine x_copy rfl rfl rfl (by decide) (by decide) (by decide) (by decide) (by decide) rfl ?_
  refine x_aload_n rfl rfl ?_
  refine x_getR (u := .ref _) rfl rfl rfl rfl ?_
  refine x_iconst rfl ?_
  refine x_aload_n rfl rfl ?_
  refine x_getR (u := .ref _) rfl rfl rfl rfl ?_
  refine x_iconst rfl ?_
  refine x_bipush rfl ?_
  refine x_copy rfl rfl rfl (by decide) (by decide) (by decide) (by decide) (by decide) rfl ?_
  refine x_aload_n rfl rfl ?_
  refine x_getR (u := .ref _) rfl rfl rfl rfl ?_
  refine x_iconst rfl ?_
  refine x_aload_n rfl rfl ?_
  refine x_getR (u := .ref _) rfl rfl rfl rfl ?_
  refine x_iconst rfl ?_
  refine x_bipush rfl ?_
  refine x_copy rfl rfl rfl (by decide) (by decide) (by decide) (by decide) (by decide) rfl ?_
  refine x_aload_n rfl rfl ?_
  refine x_getR (u := .ref _) rfl rfl rfl rfl ?_
  refine x_iconst rfl ?_
  refine x_aload_n rfl rfl ?_
  refine x_getR (u := .ref _) rfl rfl rfl rfl ?_
  refine x_iconst rfl ?_
  refine x_iconst rfl ?_
  refine x_copy rfl rfl rfl (by decide) (by decide) (by decide) (by decide) (by decide) rfl ?_
  refine x_iconst rfl ?_
  refine x_istore_n (ls' := [_, _, _]) rfl rfl rfl ?_
  exact hl
def cw_3_47 (VI : VIT) : VIT := uw (uw (uw (uw (uw (uw (uw (uw (uw (up (up (up (up (up (up (up VI 3 0 (VI 47 0)) 3 1 (VI 47 1)) 3 5 (VI 47 5)) 3 6 (VI 47 6)) 3 9 (VI 47 9)) 3 14 (VI 47 14)) 3 15 (VI 47 15)) 4 (va_cpy (VI 48) (VI 4) 0 0 6)) 5 (va_cpy (VI 49) (VI 5) 0 0 6)) 6 (va_cpy (VI 50) (VI 6) 0 0 24)) 7 (va_cpy (VI 51) (VI 7) 0 0 8)) 8 (va_cpy (VI 52) (VI 8) 0 0 8)) 9 (va_cpy (VI 53) (VI 9) 0 0 8)) 10 (va_cpy (VI 54) (VI 10) 0 0 8)) 11 (va_cpy (VI 55) (VI 11) 0 0 8)) 12 (va_cpy (VI 56) (VI 12) 0 0 3)
set_option maxRecDepth 20000 in
theorem cw_3_47_ok : CpW 3 47 VI (cw_3_47 VI) := by
  refine ⟨fun k hk => ?_, fun p hp => ⟨?_, ?_⟩, fun i hi => ?_, fun r hr => ⟨?_, ?_, ?_, ?_, ?_⟩, fun i hi => ?_, fun a ha => ?_⟩
  · rcases hk with rfl | rfl | rfl | rfl | rfl | rfl | rfl <;> rfl
  · show va_cpy (VI 48) (VI 4) 0 0 6 p = _
    rw [pk_cpy_in (by omega) (by omega), Nat.zero_add, Nat.sub_zero]
  · show va_cpy (VI 49) (VI 5) 0 0 6 p = _
    rw [pk_cpy_in (by omega) (by omega), Nat.zero_add, Nat.sub_zero]
  · show va_cpy (VI 50) (VI 6) 0 0 24 i = _
    rw [pk_cpy_in (by omega) (by omega), Nat.zero_add, Nat.sub_zero]
  · show va_cpy (VI 51) (VI 7) 0 0 8 r = _
    rw [pk_cpy_in (by omega) (by omega), Nat.zero_add, Nat.sub_zero]
  · show va_cpy (VI 52) (VI 8) 0 0 8 r = _
    rw [pk_cpy_in (by omega) (by omega), Nat.zero_add, Nat.sub_zero]
  · show va_cpy (VI 53) (VI 9) 0 0 8 r = _
    rw [pk_cpy_in (by omega) (by omega), Nat.zero_add, Nat.sub_zero]
  · show va_cpy (VI 54) (VI 10) 0 0 8 r = _
    rw [pk_cpy_in (by omega) (by omega), Nat.zero_add, Nat.sub_zero]
  · show va_cpy (VI 55) (VI 11) 0 0 8 r = _
    rw [pk_cpy_in (by omega) (by omega), Nat.zero_add, Nat.sub_zero]
  · show va_cpy (VI 56) (VI 12) 0 0 3 i = _
    rw [pk_cpy_in (by omega) (by omega), Nat.zero_add, Nat.sub_zero]
  · unfold cw_3_47
    rw [uw_ne (by omega), uw_ne (by omega), uw_ne (by omega), uw_ne (by omega), uw_ne (by omega), uw_ne (by omega), uw_ne (by omega), uw_ne (by omega), uw_ne (by omega), up_ne (by omega), up_ne (by omega), up_ne (by omega), up_ne (by omega), up_ne (by omega), up_ne (by omega), up_ne (by omega)]
set_option maxRecDepth 20000 in
theorem s_copyL_3_47 {V : VIT} (hR : Refs (LY ++ ext) (vr G)) (hP : P none (LY ++ ext) V VL (vr (cpG G 13 57 6))) : ∀ (m i : Nat), i + m = 6 → Ex (d + 0) mi89 192 [.ref 3, .ref 47, .int (nI i)] [] (LY ++ ext) V VL (vr (cpG G 13 57 i)) 0 0 P := by
  intro m
  induction m with
  | zero =>
    intro i hi
    have e : i = 6 := by omega
    subst e
    refine x_iload_n rfl rfl ?_
    refine x_bipushN (q := 6) rfl ?_
    refine x_icmpN_ge rfl (fun c195 => ?_) (fun c195 => ?_)
    rotate_left
    · exact absurd c195 (by first | decide | omega)
    refine x_vret rfl rfl ?_
    exact hP | succ m ih =>
    intro i hi
    have hv : vr (cpG G 13 57 i) 57 i = G 57 i := by
      show cpG G 13 57 i 57 i = _
      unfold cpG
      rw [if_neg (by omega)]
    rcases hR 57 (by omega) i (by omega) with h0 | ⟨b, h0, hb⟩
    · have h1 : G 57 i = .null := h0
      refine x_iload_n rfl rfl ?_
      refine x_bipushN (q := 6) rfl ?_
      refine x_icmpN_ge rfl (fun c195 => ?_) (fun c195 => ?_)
      · exact absurd c195 (by first | decide | omega)
      refine x_aload_n rfl rfl ?_
      refine x_getR (u := .ref _) rfl rfl rfl rfl ?_
      refine x_iload_n rfl rfl ?_
      refine x_aload_n rfl rfl ?_
      refine x_getR (u := .ref _) rfl rfl rfl rfl ?_
      refine x_iload_n rfl rfl ?_
      refine x_aal5Z (j := i) rfl rfl rfl (by omega) (hv.trans h1) ?_
      refine x_aas5Z (j := i) rfl rfl rfl (by omega) ?_
      refine x_iincN (q := 1) (ls' := [_, _, _]) rfl rfl rfl rfl ?_
      refine x_goto rfl ?_
      rw [cpG_step (by decide) h1 rfl]
      exact ih (i + 1) (by omega)
    · have h1 : G 57 i = .ref b := h0
      refine x_iload_n rfl rfl ?_
      refine x_bipushN (q := 6) rfl ?_
      refine x_icmpN_ge rfl (fun c195 => ?_) (fun c195 => ?_)
      · exact absurd c195 (by first | decide | omega)
      refine x_aload_n rfl rfl ?_
      refine x_getR (u := .ref _) rfl rfl rfl rfl ?_
      refine x_iload_n rfl rfl ?_
      refine x_aload_n rfl rfl ?_
      refine x_getR (u := .ref _) rfl rfl rfl rfl ?_
      refine x_iload_n rfl rfl ?_
      refine x_aal5R (j := i) (b := b) rfl rfl rfl (by omega) (hv.trans h1) ?_
      refine x_aas5R (j := i) (b := b) rfl rfl hb rfl (by omega) ?_
      refine x_iincN (q := 1) (ls' := [_, _, _]) rfl rfl rfl rfl ?_
      refine x_goto rfl ?_
      rw [cpG_step (by decide) h1 rfl]
      exact ih (i + 1) (by omega)
set_option maxRecDepth 20000 in
theorem s_copy_3_47 (hR : Refs (LY ++ ext) (vr G)) (hP : P none (LY ++ ext) (cw_3_47 VI) VL (vr (cpG G 13 57 6))) : Ex d mi89 0 (entL [.ref 3, .ref 47] 3) [] (LY ++ ext) VI VL (vr G) 0 0 P := by
  have hl := s_copyL_3_47 (d := d) (VL := VL) (G := G) (P := P) (ext := ext) (V := cw_3_47 VI) hR hP 6 0 (by omega)
  rw [cpG_0] at hl
  refine x_aload_n rfl rfl ?_
  refine x_aload_n rfl rfl ?_
  refine x_getI rfl rfl rfl ?_
  refine x_putI rfl rfl rfl rfl ?_
  refine x_aload_n rfl rfl ?_
  refine x_aload_n rfl rfl ?_
  refine x_getI rfl rfl rfl ?_
  refine x_putI rfl rfl rfl rfl ?_
  refine x_aload_n rfl rfl ?_
  refine x_aload_n rfl rfl ?_
  refine x_getI rfl rfl rfl ?_
  refine x_putI rfl rfl rfl rfl ?_
  refine x_aload_n rfl rfl ?_
  refine x_aload_n rfl rfl ?_
  refine x_getI rfl rfl rfl ?_
  refine x_putI rfl rfl rfl rfl ?_
  refine x_aload_n rfl rfl ?_
  refine x_aload_n rfl rfl ?_
  refine x_getI rfl rfl rfl ?_
  refine x_putI rfl rfl rfl rfl ?_
  refine x_aload_n rfl rfl ?_
  refine x_aload_n rfl rfl ?_
  refine x_getI rfl rfl rfl ?_
  refine x_putI rfl rfl rfl rfl ?_
  refine x_aload_n rfl rfl ?_
  refine x_aload_n rfl rfl ?_
  refine x_getI rfl rfl rfl ?_
  refine x_putI rfl rfl rfl rfl ?_
  refine x_aload_n rfl rfl ?_
  refine x_getR (u := .ref _) rfl rfl rfl rfl ?_
  refine x_iconst rfl ?_
  refine x_aload_n rfl rfl ?_
  refine x_getR (u := .ref _) rfl rfl rfl rfl ?_
  refine x_iconst rfl ?_
  refine x_bipush rfl ?_
  refine x_copy rfl rfl rfl (by decide) (by decide) (by decide) (by decide) (by decide) rfl ?_
  refine x_aload_n rfl rfl ?_
  refine x_getR (u := .ref _) rfl rfl rfl rfl ?_
  refine x_iconst rfl ?_
  refine x_aload_n rfl rfl ?_
  refine x_getR (u := .ref _) rfl rfl rfl rfl ?_
  refine x_iconst rfl ?_
  refine x_bipush rfl ?_
  refine x_copy rfl rfl rfl (by decide) (by decide) (by decide) (by decide) (by decide) rfl ?_
  refine x_aload_n rfl rfl ?_
  refine x_getR (u := .ref _) rfl rfl rfl rfl ?_
  refine x_iconst rfl ?_
  refine x_aload_n rfl rfl ?_
  refine x_getR (u := .ref _) rfl rfl rfl rfl ?_
  refine x_iconst rfl ?_
  refine x_bipush rfl ?_
  refine x_copy rfl rfl rfl (by decide) (by decide) (by decide) (by decide) (by decide) rfl ?_
  refine x_aload_n rfl rfl ?_
  refine x_getR (u := .ref _) rfl rfl rfl rfl ?_
  refine x_iconst rfl ?_
  refine x_aload_n rfl rfl ?_
  refine x_getR (u := .ref _) rfl rfl rfl rfl ?_
  refine x_iconst rfl ?_
  refine x_bipush rfl ?_
  refine x_copy rfl rfl rfl (by decide) (by decide) (by decide) (by decide) (by decide) rfl ?_
  refine x_aload_n rfl rfl ?_
  refine x_getR (u := .ref _) rfl rfl rfl rfl ?_
  refine x_iconst rfl ?_
  refine x_aload_n rfl rfl ?_
  refine x_getR (u := .ref _) rfl rfl rfl rfl ?_
  refine x_iconst rfl ?_
  refine x_bipush rfl ?_
  refine x_copy rfl rfl rfl (by decide) (by decide) (by decide) (by decide) (by decide) rfl ?_
  refine x_aload_n rfl rfl ?_
  refine x_getR (u := .ref _) rfl rfl rfl rfl ?_
  refine x_iconst rfl ?_
  refine x_aload_n rfl rfl ?_
  refine x_getR (u := .ref _) rfl rfl rfl rfl ?_
  refine x_iconst rfl ?_
  refine x_bipush rfl ?_
  refine x_copy rfl rfl rfl (by decide) (by decide) (by decide) (by decide) (by decide) rfl ?_
  refine x_aload_n rfl rfl ?_
  refine x_getR (u := .ref _) rfl rfl rfl rfl ?_
  refine x_iconst rfl ?_
  refine x_aload_n rfl rfl ?_
  refine x_getR (u := .ref _) rfl rfl rfl rfl ?_
  refine x_iconst rfl ?_
  refine x_bipush rfl ?_
  refine x_copy rfl rfl rfl (by decide) (by decide) (by decide) (by decide) (by decide) rfl ?_
  refine x_aload_n rfl rfl ?_
  refine x_getR (u := .ref _) rfl rfl rfl rfl ?_
  refine x_iconst rfl ?_
  refine x_aload_n rfl rfl ?_
  refine x_getR (u := .ref _) rfl rfl rfl rfl ?_
  refine x_iconst rfl ?_
  refine x_bipush rfl ?_
  refine x_copy rfl rfl rfl (by decide) (by decide) (by decide) (by decide) (by decide) rfl ?_
  refine x_aload_n rfl rfl ?_
  refine x_getR (u := .ref _) rfl rfl rfl rfl ?_
  refine x_iconst rfl ?_
  refine x_aload_n rfl rfl ?_
  refine x_getR (u := .ref _) rfl rfl rfl rfl ?_
  refine x_iconst rfl ?_
  refine x_iconst rfl ?_
  refine x_copy rfl rfl rfl (by decide) (by decide) (by decide) (by decide) (by decide) rfl ?_
  refine x_iconst rfl ?_
  refine x_istore_n (ls' := [_, _, _]) rfl rfl rfl ?_
  exact hl
end Copy
