/-! ===== a text is copied ===== -/
section TextC
variable {d : Nat} {V : VIT} {VL : VLT} {VR : VRT} {P : Post} {lay : HL}
set_option maxRecDepth 20000 in
theorem x_textInit {b n L : Nat} (hb : lay[b]? = some (.inr 9)) (hn : lay.length = n) (hL : L ≤ 896) (hP : P none ((lay ++ [.inl (0, 72)]) ++ [.inl (0, L)]) (uw (uw V n (fun _ => 0)) (n + 1) (fun _ => 0)) (uw (uw VL n (fun _ => 0)) (n + 1) (fun _ => 0)) (up (uw (up (uw VR n (fun _ => .null)) b 0 (.ref n)) (n + 1) (fun _ => .null)) b 1 (.ref (n + 1)))) : Ex d mi80 0 (entL [.ref b, .int (nI L)] 2) [] lay V VL VR 2 996 P := by
  have hlt : b < lay.length := (List.getElem?_eq_some_iff.mp hb).1
  have h1 : (lay ++ [.inl (0, 72)])[b]? = some (.inr 9) := (List.getElem?_append_left hlt).trans hb
  have h2 : ((lay ++ [.inl (0, 72)]) ++ [.inl (0, L)])[b]? = some (.inr 9) := (List.getElem?_append_left (by simp only [List.length_append, List.length_cons, List.length_nil]; omega)).trans h1
  have hn1 : (lay ++ [Sum.inl (0, 72)]).length = n + 1 := by simp only [List.length_append, List.length_cons, List.length_nil]; omega
  refine x_aload_n rfl rfl ?_
  refine x_objInit rfl rfl ?_
  refine x_aload_n rfl rfl ?_
  refine x_bipush rfl ?_
  refine x_newi (N := 72) (bc' := 1) (bs' := 924) rfl rfl (by decide) (by decide) hn rfl rfl ?_
  refine x_putR rfl h1 (Or.inr ⟨rfl, rfl, rfl⟩) rfl ?_
  refine x_aload_n rfl rfl ?_
  refine x_iload_n rfl rfl ?_
  refine x_iconst rfl ?_
  refine x_max rfl rfl ?_
  rw [if_neg (nI_pos (by omega))]
  refine x_newi (N := L) (bc' := 0) (bs' := 924 - L) rfl (nI_clamp (by omega)) (nI_pos (by omega)) (by omega) hn1 rfl (by omega) ?_
  refine x_putR rfl h2 (Or.inr ⟨rfl, rfl, rfl⟩) rfl ?_
  refine x_vret rfl rfl ?_
  exact hP
end TextC
section TextC2
variable {d : Nat} {V : VIT} {VL : VLT} {G : VRT} {P : Post} {ext : HL}
/-- the layout with one text more -/
abbrev layT (ext : HL) (L : Nat) : HL := (((LY ++ ext) ++ [.inr 9]) ++ [.inl (0, 72)]) ++ [.inl (0, L)]
set_option maxRecDepth 20000 in
theorem layT_eq {L : Nat} : layT ext L = LY ++ (ext ++ [.inr 9, .inl (0, 72), .inl (0, L)]) := by simp [layT]
set_option maxRecDepth 20000 in
theorem layT_at {L n : Nat} (hn : (LY ++ ext).length = n) : (layT ext L)[n]? = some (.inr 9) ∧ (layT ext L)[n + 1]? = some (.inl (0, 72)) ∧ (layT ext L)[n + 2]? = some (.inl (0, L)) := by
  have e1 : ((LY ++ ext) ++ [Sum.inr 9]).length = n + 1 := by simp only [List.length_append, List.length_cons, List.length_nil] at hn ⊢; omega
  have e2 : (((LY ++ ext) ++ [Sum.inr 9]) ++ [Sum.inl (0, 72)]).length = n + 2 := by rw [List.length_append, e1]; rfl
  refine ⟨?_, ?_, ?_⟩
  · unfold layT
    rw [List.getElem?_append_left (by rw [e2]; omega), List.getElem?_append_left (by rw [e1]; omega), List.getElem?_append_right (by rw [hn]; omega), hn, Nat.sub_self]
    rfl
  · unfold layT
    rw [List.getElem?_append_left (by rw [e2]; omega), List.getElem?_append_right (by rw [e1]; omega), e1, Nat.sub_self]
    rfl
  · unfold layT
    rw [List.getElem?_append_right (by rw [e2]; omega), e2, Nat.sub_self]
    rfl
set_option maxRecDepth 20000 in
theorem LY_len : LY.length = 100 := rfl
/-- the references with one text more, at n -/
def gT (G : VRT) (n : Nat) : VRT := fun a k => if a = n then (if k = 0 then .ref (n + 1) else if k = 1 then .ref (n + 2) else .null) else if a = n + 1 ∨ a = n + 2 then .null else G a k
set_option maxRecDepth 20000 in
theorem gT_eq {n : Nat} (h : 100 ≤ n) : up (uw (up (uw (uw (vr G) n (fun _ => .null)) (n + 1) (fun _ => .null)) n 0 (.ref (n + 1))) (n + 2) (fun _ => .null)) n 1 (.ref (n + 2)) = vr (gT G n) := by
  funext a k
  by_cases h1 : a = n
  · subst h1
    rw [vr_hi h]
    unfold gT
    rw [if_pos rfl]
    by_cases k0 : k = 0
    · subst k0
      rw [if_pos rfl, up_at' (by omega), uw_ne (by omega), up_at]
    · rw [if_neg k0]
      by_cases k1 : k = 1
      · subst k1; rw [if_pos rfl, up_at]
      · rw [if_neg k1, up_at' k1, uw_ne (by omega), up_at' k0, uw_ne (by omega), uw_same]
  · rw [up_ne h1]
    by_cases h2 : a = n + 2
    · subst h2
      rw [uw_same, vr_hi (by omega)]
      unfold gT
      rw [if_neg h1, if_pos (Or.inr rfl)]
    · rw [uw_ne h2, up_ne h1]
      by_cases h3 : a = n + 1
      · subst h3
        rw [uw_same, vr_hi (by omega)]
        unfold gT
        rw [if_neg h1, if_pos (Or.inl rfl)]
      · rw [uw_ne h3, uw_ne h1]
        unfold vr
        split
        · rfl
        · unfold gT
          rw [if_neg h1, if_neg (by omega)]
set_option maxRecDepth 20000 in
theorem x_copyText {n L m : Nat} (hn : (LY ++ ext).length = n) (hL : L ≤ 896) (h3 : V 38 3 = nI L) (h2 : V 38 2 = nI m)
  (hP : ∀ (V' : VIT) (VL' : VLT), (∀ a, a < n → V' a = V a) → V' n 2 = nI m → (∀ k, k < 72 → V' (n + 1) k = V 39 k) → (∀ k, k < L → V' (n + 2) k = V 40 k) → P (some (.ref n)) (layT ext L) V' VL' (vr (gT G n))) : Ex (d + 1) mi81 0 (entL [.ref 38] 2) [] (LY ++ ext) V VL (vr G) 3 1000 P := by
  have hn100 : 100 ≤ n := by rw [← hn, List.length_append, LY_len]; omega
  have e1 : ((LY ++ ext) ++ [Sum.inr 9])[n]? = some (.inr 9) := by rw [List.getElem?_append_right (by rw [hn]; omega), hn, Nat.sub_self]; rfl
  have e2 : ((LY ++ ext) ++ [Sum.inr 9]).length = n + 1 := by rw [List.length_append, hn]; rfl
  obtain ⟨l0, l1, l2⟩ := layT_at (L := L) hn
  have r39 : vr (gT G n) 38 0 = .ref 39 := rfl
  have r40 : vr (gT G n) 38 1 = .ref 40 := rfl
  have rn0 : vr (gT G n) n 0 = .ref (n + 1) := by rw [vr_hi hn100]; unfold gT; rw [if_pos rfl, if_pos rfl]
  have rn1 : vr (gT G n) n 1 = .ref (n + 2) := by rw [vr_hi hn100]; unfold gT; rw [if_pos rfl, if_neg (by omega), if_pos rfl]
  have hcl : (Int32.ofNat L).toNatClampNeg = L := nI_clamp (by omega)
  have hfin : ∀ (Vb : VIT) (VL' : VLT), (∀ a, a < n → Vb a = V a) → (∀ k, k < 72 → Vb (n + 1) k = V 39 k) → (∀ k, k < L → Vb (n + 2) k = V 40 k) → Ex (d + 1) mi81 48 [.ref 38, .ref n] [] (layT ext L) Vb VL' (vr (gT G n)) 0 0 P := by
    intro Vb VL' b0 b1_ b2_
    refine x_aload_n rfl rfl ?_
    refine x_aload_n rfl rfl ?_
    refine x_getE (y := 2) (u := nI m) rfl rfl rfl ((congrFun (b0 38 (by omega)) 2).trans h2) ?_
    refine x_putI rfl l0 rfl rfl ?_
    refine x_aload_n rfl rfl ?_
    refine x_aload_n rfl rfl ?_
    refine x_getE (y := 3) (u := nI L) rfl rfl rfl (by rw [up_ne (by omega), b0 38 (by omega)]; exact h3) ?_
    refine x_putI rfl l0 rfl rfl ?_
    refine x_aload_n rfl rfl ?_
    refine x_aret rfl rfl (Or.inr ⟨_, rfl⟩) ?_
    refine hP _ _ (fun a ha => ?_) ?_ (fun k hk => ?_) (fun k hk => ?_)
    · rw [up_ne (by omega), up_ne (by omega)]; exact b0 a ha
    · rw [up_at' (by omega), up_at]
    · rw [up_ne (by omega), up_ne (by omega)]; exact b1_ k hk
    · rw [up_ne (by omega), up_ne (by omega)]; exact b2_ k hk
  have hmid : ∀ (Va : VIT) (VL' : VLT), (∀ a, a < n → Va a = V a) → Ex (d + 1) mi81 11 [.ref 38, .retAddr 9] [.ref n] (layT ext L) Va VL' (vr (gT G n)) 0 0 P := by
    intro Va VL' a0
    refine x_astore_n (ls' := [_, _]) rfl rfl rfl ?_
    refine x_aload_n rfl rfl ?_
    refine x_getR (u := .ref 39) rfl rfl rfl r39 ?_
    refine x_iconst rfl ?_
    refine x_aload_n rfl rfl ?_
    refine x_getR (u := .ref (n + 1)) rfl l0 rfl rn0 ?_
    refine x_iconst rfl ?_
    refine x_aload_n rfl rfl ?_
    refine x_getR (u := .ref 39) rfl rfl rfl r39 ?_
    refine x_alen0 rfl rfl ?_
    refine x_copy rfl rfl l1 (by decide) (by decide) (by decide) (by decide) (by decide) rfl ?_
    refine x_aload_n rfl rfl ?_
    refine x_getR (u := .ref 40) rfl rfl rfl r40 ?_
    refine x_iconst rfl ?_
    refine x_aload_n rfl rfl ?_
    refine x_getR (u := .ref (n + 2)) rfl l0 rfl rn1 ?_
    refine x_iconst rfl ?_
    refine x_aload_n rfl rfl ?_
    refine x_getR (u := .ref (n + 2)) rfl l0 rfl rn1 ?_
    refine x_alen0 rfl l2 ?_
    refine x_copy rfl rfl l2 (by decide) (by decide) (nI_pos (n := L) (by omega)) (by rw [hcl]; show 0 + L ≤ 896; omega) (by rw [hcl]; show 0 + L ≤ L; omega) rfl ?_
    refine hfin _ _ (fun a ha => ?_) (fun k hk => ?_) (fun k hk => ?_)
    · rw [uw_ne (by omega), uw_ne (by omega)]; exact a0 a ha
    · rw [uw_ne (by omega), uw_same, ← a0 39 (by omega)]
      show (if 0 ≤ k ∧ k < 0 + 72 then Va 39 (0 + (k - 0)) else Va (n + 1) k) = _
      rw [if_pos (by omega), Nat.zero_add, Nat.sub_zero]
    · rw [uw_same, hcl, ← a0 40 (by omega)]
      show (if 0 ≤ k ∧ k < 0 + L then (uw Va (n + 1) _) 40 (0 + (k - 0)) else _) = _
      rw [if_pos (by omega), Nat.zero_add, Nat.sub_zero, uw_ne (by omega)]
  refine x_new (n := n) (bc' := 2) (bs' := 996) rfl rfl hn rfl rfl ?_
  refine x_dup rfl rfl ?_
  refine x_aload_n rfl rfl ?_
  refine x_getE (y := 3) (u := nI L) rfl rfl rfl (by rw [uw_ne (by omega)]; exact h3) ?_
  refine x_callI (M' := mi80) (As := [_]) (bc1 := 2) (bs1 := 996) (bc2 := 0) (bs2 := 0) rfl rfl rfl rfl ok80 rfl rfl rfl rfl rfl rfl rfl rfl ?_
  refine x_textInit (n := n + 1) e1 e2 hL ?_
  rw [gT_eq hn100]
  exact hmid _ _ (fun a ha => by rw [uw_ne (by omega), uw_ne (by omega), uw_ne (by omega)])
/-- the references with the text at n as law t -/
def gL (G : VRT) (n t : Nat) : VRT := fun a k => if a = 13 ∧ k = t then .ref n else gT G n a k
set_option maxRecDepth 20000 in
theorem gL_eq {n t : Nat} : up (vr (gT G n)) 13 t (.ref n) = vr (gL G n t) := by
  funext a k
  by_cases h : a = 13
  · subst h
    by_cases c : k = t
    · subst c
      rw [up_at]
      show _ = (if 13 = 13 ∧ k = k then _ else _)
      rw [if_pos ⟨rfl, rfl⟩]
    · rw [up_at' c]
      show gT G n 13 k = (if 13 = 13 ∧ k = t then _ else gT G n 13 k)
      rw [if_neg (fun z => c z.2)]
  · rw [up_ne h]
    unfold vr
    split
    · rfl
    · unfold gL
      rw [if_neg (fun z => h z.1)]
set_option maxRecDepth 20000 in
theorem x_addLaw {n t L : Nat} (hn : (LY ++ ext).length = n) (ht : t < 6) (hl : V 3 14 = nI t) (hP : P (some (.int (nI t))) (layT ext L) (up V 3 14 (nI (t + 1))) VL (vr (gL G n t))) : Ex d mi94 0 (entL [.ref 3, .ref n] 2) [] (layT ext L) V VL (vr (gT G n)) 0 0 P := by
  obtain ⟨l0, l1, l2⟩ := layT_at (L := L) hn
  rw [← gL_eq] at hP
  refine x_aload_n rfl rfl ?_
  refine x_getE (y := 14) rfl rfl rfl hl ?_
  refine x_bipushN (q := 6) rfl ?_
  refine x_icmpN_lt rfl (fun c6 => ?_) (fun c6 => ?_)
  rotate_left
  · exact absurd c6 (by first | decide | omega)
  refine x_aload_n rfl rfl ?_
  refine x_getR (u := .ref _) rfl rfl rfl rfl ?_
  refine x_aload_n rfl rfl ?_
  refine x_getE (y := 14) rfl rfl rfl hl ?_
  refine x_aload_n rfl rfl ?_
  refine x_aas5R (j := t) rfl rfl l0 rfl ht ?_
  refine x_aload_n rfl rfl ?_
  refine x_dup rfl rfl ?_
  refine x_getE (y := 14) rfl rfl rfl hl ?_
  refine x_iconstN (q := 1) rfl ?_
  refine x_iaddN rfl ?_
  refine x_putI rfl rfl rfl rfl ?_
  refine x_aload_n rfl rfl ?_
  refine x_getE (y := 14) rfl rfl rfl up_at ?_
  refine x_iconstN (q := 1) rfl ?_
  refine x_isubN rfl ?_
  refine x_iret rfl rfl ?_
  rw [show t + 1 - 1 = t by omega]
  exact hP
end TextC2
/-! ===== the text that was read, as Judge and Orders see it ===== -/
set_option maxRecDepth 20000 in
theorem TelV.tells {nw l s : Nat} {wm : Nat → Nat} {V : VIT} {x : Den} (h : TelV nw wm V l s x) (hl : l ≤ 896) (hn : nw = if wm 0 = 8 then 9 else 36) : s < l ∧ Tells (cdv V) l s wm x := by
  obtain ⟨l1, h1, h2, h3⟩ := h
  have h4 := h1.1
  exact ⟨by omega, h1.tells (by omega) hl (by omega) (fun _ _ _ => rfl) (cdv_eq h2 (by omega)) hn⟩
set_option maxRecDepth 20000 in
theorem text_of {nw l : Nat} {wm : Nat → Nat} {V : VIT} {cl : List Cla} {hd : Nat → Int32} (h : ∀ j c, cl[j]? = some c → ClaV nw wm V l j c) (hcl : cl.length ≤ 12) (hhd : ∀ k, k < 72 → hd k = V 39 k) (hl : l ≤ 896) (hn : nw = if wm 0 = 8 then 9 else 36) : TextOf hd (cdv V) l wm cl := by
  intro i c hc
  have hi := (List.getElem?_eq_some_iff.mp hc).1
  obtain ⟨h1, h2, h3, h4, h5⟩ := h i c hc
  rw [hhd _ (by omega), hhd _ (by omega), hhd _ (by omega), hhd _ (by omega), hhd _ (by omega), hhd _ (by omega)]
  refine ⟨h1, h2, ?_, fun w => ?_, ?_⟩
  · rcases h3 with q | q | ⟨s, q1, q2⟩
    · exact Or.inl q
    · exact Or.inr (Or.inl q)
    · obtain ⟨t1, t2⟩ := q2.tells hl hn
      exact Or.inr (Or.inr ⟨s, t1, q1, t2⟩)
  · rcases h4 w with q | ⟨q0, ⟨s, q1, q2⟩, s', q3, q4⟩
    · exact Or.inl q
    · obtain ⟨t1, t2⟩ := q2.tells hl hn
      obtain ⟨t3, t4⟩ := q4.tells hl hn
      exact Or.inr ⟨q0, ⟨s, t1, q1, t2⟩, s', t3, q3, t4⟩
  · rcases h5 with q | ⟨q0, s, q1, q2⟩
    · exact Or.inl q
    · obtain ⟨t1, t2⟩ := q2.tells hl hn
      exact Or.inr ⟨q0, s, t1, q1, t2⟩
