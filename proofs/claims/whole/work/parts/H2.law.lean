/-! ===== law: the class's, the model's ===== -/
def spL (a k : Nat) : Prop := (a = 0 ∧ (k = 13 ∨ k = 14 ∨ k = 17)) ∨ (a = 3 ∧ k = 14) ∨ (37 ≤ a ∧ a ≤ 42) ∨ (a = 74 ∧ (k = 0 ∨ (8 ≤ k ∧ k ≤ 10) ∨ k = 13 ∨ k = 14 ∨ (18 ≤ k ∧ k ≤ 21))) ∨ a = 76 ∨ (83 ≤ a ∧ a ≤ 85)
set_option maxRecDepth 20000 in
theorem FrQx.spLf {V0 V : VIT} (h : FrQx V0 V) (a k : Nat) (hs : ¬ spL a k) : V a k = V0 a k := by
  unfold spL at hs
  exact h a k (by omega) (by omega) (by omega) (by omega) (by omega) (by omega)
set_option maxRecDepth 20000 in
theorem FrMR.spLf {V0 V : VIT} (h : FrMR V0 V) (a k : Nat) (hs : ¬ spL a k) : V a k = V0 a k := by
  unfold spL at hs
  exact h a k (by omega) (by omega) (by omega) (by omega)
section LawC
variable {d : Nat} {V : VIT} {VL : VLT} {G : VRT} {P : Post} {ext : HL} {t tn n : Nat} {T tc tv : Nat → Nat}
set_option maxRecDepth 20000 in
theorem x_law_full (h13 : V 0 13 = nI tn) (hl : V 3 14 = nI 6) (hP : P (some (.int (-5))) (LY ++ ext) (up (up (up V 0 13 0) 0 17 (-5)) 73 4 (V 73 4 + 1)) VL (vr G)) : Ex (d + 35) mi118 0 (entL [.ref 0] 3) [] (LY ++ ext) V VL (vr G) 0 0 P := by
  have hl1 : (up V 0 13 0) 3 14 = nI 6 := by rw [up_ne (by omega)]; exact hl
  refine x_aload_n rfl rfl ?_
  refine x_callV (M' := mi148) (As := []) (bc1 := 0) (bs1 := 0) (bc2 := 0) (bs2 := 0) rfl rfl rfl rfl ok148 rfl rfl (by decide) rfl rfl rfl rfl rfl rfl ?_
  refine s_takenTape ?_
  refine x_istore_n (ls' := [_, _, _]) rfl rfl rfl ?_
  refine x_aload_n rfl rfl ?_
  refine x_getR (u := .ref _) rfl rfl rfl rfl ?_
  refine x_getE (y := 14) rfl rfl rfl hl1 ?_
  refine x_bipushN (q := 6) rfl ?_
  refine x_icmpN_lt rfl (fun c14 => ?_) (fun c14 => ?_)
  · exact absurd c14 (by first | decide | omega)
  refine x_aload_n rfl rfl ?_
  refine x_bipush rfl ?_
  refine x_callV (M' := mi145) (As := [_]) (bc1 := 0) (bs1 := 0) (bc2 := 0) (bs2 := 0) rfl rfl rfl rfl ok145 rfl rfl (by decide) rfl rfl rfl rfl rfl rfl ?_
  refine s_settled_ref 4 rfl (by omega) ?_
  refine x_iret rfl rfl ?_
  exact hP
set_option maxRecDepth 20000 in
theorem x_lawC (hn : (LY ++ ext).length = n) (h13 : V 0 13 = nI tn) (htn : tn ≤ 400) (hT : ∀ k, k < tn → T k < 256 ∧ V 72 k = nI (T k)) (hK : TokC T tn tc tv) (hl : V 3 14 = nI t) (ht : t < 6)
  (h1 : ∀ (V' : VIT) (VL' : VLT) (L : Nat) (cl : List Cla) (cd : Nat → Nat), pTxt false tc tv (Tks T tn).length 12 0 0 = (1, (Tks T tn).length, cl) → (∀ a k, a < n → ¬ spL a k → V' a k = V a k) → V' 0 13 = nI 0 → V' 0 14 = -1 → V' 0 17 = 0 → V' 3 14 = nI (t + 1) → L ≤ 896 → V' n 2 = nI cl.length → (∀ k, k < L → cd k < 1000000 ∧ V' (n + 2) k = nI (cd k)) → TextOf (V' (n + 1)) cd L lwm cl → (∀ a, (a = 76 ∨ (83 ≤ a ∧ a ≤ 85) ∨ a = 74) → V' a = V a) → P (some (.int (nI t))) (LY ++ (ext ++ [.inr 9, .inl (0, 72), .inl (0, L)])) V' VL' (vr (gL G n t)))
  (h0 : (pTxt false tc tv (Tks T tn).length 12 0 0).1 = 0 → ∀ V' : VIT, (∀ a k, ¬ spL a k → ¬ (a = 73 ∧ k = 5) → V' a k = V a k) → V' 0 13 = nI 0 → V' 0 14 = nI (plT T tn (pTxt false tc tv (Tks T tn).length 12 0 0).2.1) → V' 0 17 = -6 → V' 73 5 = V 73 5 + 1 → V' 3 14 = V 3 14 → (∀ a, (a = 76 ∨ (83 ≤ a ∧ a ≤ 85) ∨ a = 74) → V' a = V a) → P (some (.int (-6))) (LY ++ ext) V' VL (vr G)) : Ex (d + 35) mi118 0 (entL [.ref 0] 3) [] (LY ++ ext) V VL (vr G) 3 1000 P := by
  have hlen : 100 ≤ n := by rw [← hn, List.length_append, LY_len]; omega
  have hT1 : ∀ k, k < tn → T k < 256 ∧ (up V 0 13 0) 72 k = nI (T k) := fun k hk => ⟨(hT k hk).1, by rw [up_ne (by omega)]; exact (hT k hk).2⟩
  have hl1 : (up V 0 13 0) 3 14 = nI t := by rw [up_ne (by omega)]; exact hl
  refine x_aload_n rfl rfl ?_
  refine x_callV (M' := mi148) (As := []) (bc1 := 0) (bs1 := 0) (bc2 := 3) (bs2 := 1000) rfl rfl rfl rfl ok148 rfl rfl (by decide) rfl rfl rfl rfl rfl rfl ?_
  refine s_takenTape ?_
  rw [h13]
  refine x_istore_n (ls' := [_, _, _]) rfl rfl rfl ?_
  refine x_aload_n rfl rfl ?_
  refine x_getR (u := .ref _) rfl rfl rfl rfl ?_
  refine x_getE (y := 14) rfl rfl rfl hl1 ?_
  refine x_bipushN (q := 6) rfl ?_
  refine x_icmpN_lt rfl (fun c14 => ?_) (fun c14 => ?_)
  rotate_left
  · exact absurd c14 (by first | decide | omega)
  refine x_aload_n rfl rfl ?_
  refine x_getR (u := .ref _) rfl rfl rfl rfl ?_
  refine x_aload_n rfl rfl ?_
  refine x_getR (u := .ref _) rfl rfl rfl rfl ?_
  refine x_iload_n rfl rfl ?_
  refine x_iconst rfl ?_
  refine x_callV (M' := mi40) (As := [_, _, _]) (bc1 := 0) (bs1 := 0) (bc2 := 3) (bs2 := 1000) rfl rfl rfl rfl ok40 rfl rfl (by decide) rfl rfl rfl rfl rfl rfl ?_
  refine x_read (o := false) (nw := 9) (wm := lwm) (d := d) rfl rfl htn hT1 hK (fun V2 l2 cl e2 F2 a1 a2 a3 a4 a5 C2 C3 => ?_) (fun V2 i2 e1 e2 F2 a1 => ?_)
  skip
  · have f2 : ∀ a k, ¬ spL a k → V2 a k = V a k := fun a k hs => (F2.spLf a k hs).trans (up_ne2 (by unfold spL at hs; omega))
    have hl2 : V2 3 14 = nI t := by rw [F2 3 14 (by omega) (by omega) (by omega) (by omega) (by omega) (by omega)]; exact hl1
    refine x_istore_n (ls' := [_, _, _]) rfl rfl rfl ?_
    refine x_aload_n rfl rfl ?_
    refine x_aload_n rfl rfl ?_
    refine x_getR (u := .ref _) rfl rfl rfl rfl ?_
    refine x_getE (y := 1) rfl rfl rfl a1 ?_
    refine x_putI rfl rfl rfl rfl ?_
    refine x_aload_n rfl rfl ?_
    refine x_iload_n rfl rfl ?_
    refine x_ifN_eq rfl (fun c51 => ?_) (fun c51 => ?_)
    · exact absurd c51 (by first | decide | omega)
    refine x_aload_n rfl rfl ?_
    refine x_getR (u := .ref _) rfl rfl rfl rfl ?_
    refine x_aload_n rfl rfl ?_
    refine x_getR (u := .ref _) rfl rfl rfl rfl ?_
    refine x_getR (u := .ref _) rfl rfl rfl rfl ?_
    refine x_callV (M' := mi81) (As := []) (bc1 := 3) (bs1 := 1000) (bc2 := 0) (bs2 := 0) rfl rfl rfl rfl ok81 rfl rfl (by decide) rfl rfl rfl rfl rfl rfl ?_
    refine x_copyText (L := l2) (m := cl.length) (d := d + 33) hn (by omega) (by rw [up_ne (by omega)]; exact a4) (by rw [up_ne (by omega)]; exact a2) (fun V4 VL4 g1 g2 g3 g4 => ?_)
    refine x_callV (M' := mi94) (As := [_]) (bc1 := 0) (bs1 := 0) (bc2 := 0) (bs2 := 0) rfl rfl rfl rfl ok94 rfl rfl (by decide) rfl rfl rfl rfl rfl rfl ?_
    refine x_addLaw hn ht (by rw [g1 3 (by omega), up_ne (by omega)]; exact hl2) ?_
    refine x_goto rfl ?_
    rw [layT_eq]
    refine x_callV (M' := mi145) (As := [_]) (bc1 := 0) (bs1 := 0) (bc2 := 0) (bs2 := 0) rfl rfl rfl rfl ok145 rfl rfl (by decide) rfl rfl rfl rfl rfl rfl ?_
    refine s_settled_ok (by omega) ?_
    skip
    have f4 : ∀ a, a < n → V4 a = up V2 0 14 (-1) a := g1
    refine x_iret rfl rfl ?_
    refine h1 _ VL4 l2 cl (cdv V2) e2 (fun a k ha hs => ?_) ?_ ?_ up_at ?_ (by omega) ?_ (fun k hk => ⟨(C2 k (by omega) hk).2, ?_⟩) (text_of C3 a3 (fun k hk => ?_) (by omega) rfl) (fun a ha => ?_)
    · rw [up_ne2 (by unfold spL at hs; omega), up_ne2 (by unfold spL at hs; omega), f4 a ha, up_ne2 (by unfold spL at hs; omega)]; exact f2 a k hs
    · rw [up_at' (by omega), up_ne (by omega), f4 0 (by omega), up_at' (by omega), F2 0 13 (by omega) (by omega) (by omega) (by omega) (by omega) (by omega), up_at]; rfl
    · rw [up_at' (by omega), up_ne (by omega), f4 0 (by omega), up_at]
    · rw [up_ne (by omega), up_at]
    · rw [up_ne (by omega), up_ne (by omega)]; exact g2
    · rw [up_ne (by omega), up_ne (by omega), g4 k hk, up_ne (by omega)]; exact (C2 k (by omega) hk).1
    · rw [up_ne (by omega), up_ne (by omega), g3 k hk, up_ne (by omega)]
    · rw [up_ne (by omega), up_ne (by omega), f4 a (by omega), up_ne (by omega)]
      funext k
      rw [F2 a k (by omega) (by omega) (by omega) (by omega) (by omega) (by omega), up_ne (by omega)]
  · have f2 : ∀ a k, ¬ spL a k → V2 a k = V a k := fun a k hs => (F2.spLf a k hs).trans (up_ne2 (by unfold spL at hs; omega))
    refine x_istore_n (ls' := [_, _, _]) rfl rfl rfl ?_
    refine x_aload_n rfl rfl ?_
    refine x_aload_n rfl rfl ?_
    refine x_getR (u := .ref _) rfl rfl rfl rfl ?_
    refine x_getE (y := 1) rfl rfl rfl a1 ?_
    refine x_putI rfl rfl rfl rfl ?_
    refine x_aload_n rfl rfl ?_
    refine x_iload_n rfl rfl ?_
    refine x_ifN_eq rfl (fun c51 => ?_) (fun c51 => ?_)
    rotate_left
    · exact absurd c51 (by first | decide | omega)
    refine x_bipush rfl ?_
    refine x_callV (M' := mi145) (As := [_]) (bc1 := 0) (bs1 := 0) (bc2 := 3) (bs2 := 1000) rfl rfl rfl rfl ok145 rfl rfl (by decide) rfl rfl rfl rfl rfl rfl ?_
    refine s_settled_ref 5 rfl (by omega) ?_
    refine x_iret rfl rfl ?_
    skip
    have e73 : up V2 0 14 (nI (plT T tn i2)) 73 5 = V 73 5 := by rw [up_ne (by omega)]; exact f2 73 5 (by unfold spL; omega)
    rw [e73]
    refine h0 e1 _ (fun a k hs h7 => ?_) ?_ ?_ ?_ ?_ ?_ (fun a ha => ?_)
    · rw [up_ne2 h7, up_ne2 (by unfold spL at hs; omega), up_ne2 (by unfold spL at hs; omega)]; exact f2 a k hs
    · rw [up_ne (by omega), up_at' (by omega), up_at' (by omega), F2 0 13 (by omega) (by omega) (by omega) (by omega) (by omega) (by omega), up_at]; rfl
    · rw [up_ne (by omega), up_at' (by omega), up_at, e2]
    · rw [up_ne (by omega), up_at]
    · rw [up_at]
    · rw [up_ne (by omega), up_ne (by omega), up_ne (by omega), F2 3 14 (by omega) (by omega) (by omega) (by omega) (by omega) (by omega), up_ne (by omega)]
    · rw [up_ne (by omega), up_ne (by omega), up_ne (by omega)]
      funext k
      rw [F2 a k (by omega) (by omega) (by omega) (by omega) (by omega) (by omega), up_ne (by omega)]
end LawC
/-- a row with the tokens laid as text t -/
def layK (K : KT) (t N : Nat) (tc tv : Nat → Nat) : KT := fun i => if i = 98 + t then N else if 105 + 400 * t ≤ i ∧ i < 105 + 400 * t + N then tc (i - (105 + 400 * t)) else if 2905 + 400 * t ≤ i ∧ i < 2905 + 400 * t + N then tv (i - (2905 + 400 * t)) else K i
set_option maxRecDepth 20000 in
theorem layK_lo {K : KT} {t N i : Nat} {tc tv : Nat → Nat} (h : i < 98) : layK K t N tc tv i = K i := by
  unfold layK
  rw [if_neg (by omega), if_neg (by omega), if_neg (by omega)]
set_option maxRecDepth 20000 in
theorem layK_n {K : KT} {t N : Nat} {tc tv : Nat → Nat} : layK K t N tc tv (98 + t) = N := if_pos rfl
set_option maxRecDepth 20000 in
theorem layK_c {K : KT} {t N k : Nat} {tc tv : Nat → Nat} (h : k < N) (ht : t ≤ 6) : layK K t N tc tv (105 + 400 * t + k) = tc k := by
  unfold layK
  rw [if_neg (by omega), if_pos (by omega), Nat.add_sub_cancel_left]
set_option maxRecDepth 20000 in
theorem layK_v {K : KT} {t N k : Nat} {tc tv : Nat → Nat} (h : k < N) (hN : N ≤ 400) (ht : t ≤ 6) : layK K t N tc tv (2905 + 400 * t + k) = tv k := by
  unfold layK
  rw [if_neg (by omega), if_neg (by omega), if_pos (by omega), Nat.add_sub_cancel_left]
set_option maxRecDepth 20000 in
theorem layK_o {K : KT} {t N i : Nat} {tc tv : Nat → Nat} (h1 : i ≠ 98 + t) (h2 : ¬ (105 + 400 * t ≤ i ∧ i < 505 + 400 * t)) (h3 : ¬ (2905 + 400 * t ≤ i ∧ i < 3305 + 400 * t)) (hN : N ≤ 400) : layK K t N tc tv i = K i := by
  unfold layK
  rw [if_neg h1, if_neg (by omega), if_neg (by omega)]
section LawM
variable {d : Nat} {V : VIT} {VL : VLT} {G : VRT} {P : Post} {ext : HL} {t tn N : Nat} {T tc tv : Nat → Nat} {K : KT}
set_option maxRecDepth 20000 in
theorem m_lays (ht : t ≤ 6) (hN : N ≤ 400) (hM : RK (V 76) K) (hT : TkM N tc tv V) (hP : ∀ V' : VIT, (∀ a, a ≠ 76 → V' a = V a) → RK (V' 76) (layK K t N tc tv) → P none (LY ++ ext) V' VL (vr G)) : Ex d mi212 0 (entL [.ref 74, .int (nI t)] 3) [] (LY ++ ext) V VL (vr G) 0 0 P := by
  obtain ⟨h18, hT⟩ := hT
  have hlp : ∀ (m q : Nat) (V1 : VIT), q + m = N → (∀ a, a ≠ 76 → V1 a = V a) → (∀ i, V1 76 i = if i = 98 + t then nI N else if 105 + 400 * t ≤ i ∧ i < 105 + 400 * t + q then nI (tc (i - (105 + 400 * t))) else if 2905 + 400 * t ≤ i ∧ i < 2905 + 400 * t + q then nI (tv (i - (2905 + 400 * t))) else V 76 i) → Ex (d + 0) mi212 15 [.ref 74, .int (nI t), .int (nI q)] [] (LY ++ ext) V1 VL (vr G) 0 0 P := by
    intro m
    induction m with
    | zero =>
      intro q V1 hq hF hv
      have e18 : V1 74 18 = nI N := by rw [hF 74 (by omega)]; exact h18
      have eq : q = N := by omega
      subst eq
      refine x_iload_n rfl rfl ?_
      refine x_aload_n rfl rfl ?_
      refine x_getE (y := 18) rfl rfl rfl e18 ?_
      refine x_icmpN_ge rfl (fun c20 => ?_) (fun c20 => ?_)
      rotate_left
      · exact absurd c20 (by first | decide | omega)
      refine x_vret rfl rfl ?_
      refine hP V1 hF (hM.set (fun i hi h97 => ?_) (Or.inl ⟨?_, layK_lo (by omega)⟩))
      · rw [hv i]
        unfold layK
        by_cases c1 : i = 98 + t
        · rw [if_pos c1, if_pos c1]; exact Or.inr rfl
        · rw [if_neg c1, if_neg c1]
          by_cases c2 : 105 + 400 * t ≤ i ∧ i < 105 + 400 * t + q
          · rw [if_pos c2, if_pos c2]; exact Or.inr rfl
          · rw [if_neg c2, if_neg c2]
            by_cases c3 : 2905 + 400 * t ≤ i ∧ i < 2905 + 400 * t + q
            · rw [if_pos c3, if_pos c3]; exact Or.inr rfl
            · rw [if_neg c3, if_neg c3]; exact Or.inl ⟨rfl, rfl⟩
      · rw [hv 97, if_neg (by omega), if_neg (by omega), if_neg (by omega)]
    | succ m ih =>
      intro q V1 hq hF hv
      have e18 : V1 74 18 = nI N := by rw [hF 74 (by omega)]; exact h18
      obtain ⟨t1, t2⟩ := hT q (by omega)
      have e83 : V1 83 q = nI (tc q) := by rw [hF 83 (by omega)]; exact t1
      have e84 : up V1 76 (105 + 400 * t + q) (nI (tc q)) 84 q = nI (tv q) := by rw [up_ne (by omega), hF 84 (by omega)]; exact t2
      refine x_iload_n rfl rfl ?_
      refine x_aload_n rfl rfl ?_
      refine x_getE (y := 18) rfl rfl rfl e18 ?_
      refine x_icmpN_ge rfl (fun c20 => ?_) (fun c20 => ?_)
      · exact absurd c20 (by first | decide | omega)
      refine x_aload_n rfl rfl ?_
      refine x_getR (u := .ref _) rfl rfl rfl rfl ?_
      refine x_bipushN (q := 105) rfl ?_
      refine x_sipushN (q := 400) rfl ?_
      refine x_iload_n rfl rfl ?_
      refine x_imulN rfl ?_
      refine x_iaddN rfl ?_
      refine x_iload_n rfl rfl ?_
      refine x_iaddN rfl ?_
      refine x_aload_n rfl rfl ?_
      refine x_getR (u := .ref _) rfl rfl rfl rfl ?_
      refine x_iload_n rfl rfl ?_
      refine x_ialE (j := q) rfl rfl (rfl) (by omega) (e83) ?_
      refine x_iasN (j := 105 + 400 * t + q) rfl rfl (rfl) (by omega) ?_
      refine x_aload_n rfl rfl ?_
      refine x_getR (u := .ref _) rfl rfl rfl rfl ?_
      refine x_sipushN (q := 2905) rfl ?_
      refine x_sipushN (q := 400) rfl ?_
      refine x_iload_n rfl rfl ?_
      refine x_imulN rfl ?_
      refine x_iaddN rfl ?_
      refine x_iload_n rfl rfl ?_
      refine x_iaddN rfl ?_
      refine x_aload_n rfl rfl ?_
      refine x_getR (u := .ref _) rfl rfl rfl rfl ?_
      refine x_iload_n rfl rfl ?_
      refine x_ialE (j := q) rfl rfl (rfl) (by omega) (e84) ?_
      refine x_iasN (j := 2905 + 400 * t + q) rfl rfl (rfl) (by omega) ?_
      refine x_iincN (q := 1) (ls' := [_, _, _]) rfl rfl rfl rfl ?_
      refine x_goto rfl ?_
      refine ih (q + 1) _ (by omega) (fun a ha => by rw [up_ne ha, up_ne ha]; exact hF a ha) (fun i => ?_)
      by_cases c1 : i = 2905 + 400 * t + q
      · subst c1
        rw [up_at, if_neg (by omega), if_neg (by omega), if_pos (by omega), Nat.add_sub_cancel_left]
      · rw [up_at' c1]
        by_cases c2 : i = 105 + 400 * t + q
        · subst c2
          rw [up_at, if_neg (by omega), if_pos (by omega), Nat.add_sub_cancel_left]
        · rw [up_at' c2, hv i]
          by_cases c3 : i = 98 + t
          · rw [if_pos c3, if_pos c3]
          · rw [if_neg c3, if_neg c3]
            by_cases c4 : 105 + 400 * t ≤ i ∧ i < 105 + 400 * t + q
            · rw [if_pos c4, if_pos (by omega)]
            · rw [if_neg c4, if_neg (show ¬ (105 + 400 * t ≤ i ∧ i < 105 + 400 * t + (q + 1)) by omega)]
              by_cases c5 : 2905 + 400 * t ≤ i ∧ i < 2905 + 400 * t + q
              · rw [if_pos c5, if_pos (by omega)]
              · rw [if_neg c5, if_neg (by omega)]
  refine x_aload_n rfl rfl ?_
  refine x_getR (u := .ref _) rfl rfl rfl rfl ?_
  refine x_bipushN (q := 98) rfl ?_
  refine x_iload_n rfl rfl ?_
  refine x_iaddN rfl ?_
  refine x_aload_n rfl rfl ?_
  refine x_getE (y := 18) rfl rfl rfl h18 ?_
  refine x_iasN (j := 98 + t) rfl rfl (rfl) (by omega) ?_
  refine x_iconstN (q := 0) rfl ?_
  refine x_istore_n (ls' := [_, _, _]) rfl rfl rfl ?_
  refine hlp N 0 _ (by omega) (fun a ha => up_ne ha) (fun i => ?_)
  by_cases c1 : i = 98 + t
  · rw [if_pos c1, c1, up_at]
  · rw [if_neg c1, up_at' c1, if_neg (by omega), if_neg (by omega)]
set_option maxRecDepth 20000 in
theorem m_law_full (hM : RK (V 76) K) (h6 : K 96 = 6) (hP : P (some (.int (-5))) (LY ++ ext) (up (up (up V 74 13 (nI 0)) 74 0 (-5)) 75 5 (V 75 5 + 1)) VL (vr G)) : Ex (d + 39) mi213 0 (entL [.ref 74] 1) [] (LY ++ ext) V VL (vr G) 0 0 P := by
  refine x_aload_n rfl rfl ?_
  refine x_getR (u := .ref _) rfl rfl rfl rfl ?_
  refine x_bipushN (q := 96) rfl ?_
  refine x_ialE (j := 96) rfl rfl (rfl) (by omega) (hM.at 96) ?_
  rw [h6]
  refine x_bipushN (q := 6) rfl ?_
  refine x_icmpN_ne rfl (fun c9 => ?_) (fun c9 => ?_)
  · exact absurd c9 (by first | decide | omega)
  refine x_aload_n rfl rfl ?_
  refine x_iconstN (q := 0) rfl ?_
  refine x_putI rfl rfl rfl rfl ?_
  refine x_aload_n rfl rfl ?_
  refine x_bipush rfl ?_
  refine x_callV (M' := mi154) (As := [_]) (bc1 := 0) (bs1 := 0) (bc2 := 0) (bs2 := 0) rfl rfl rfl rfl ok154 rfl rfl (by decide) rfl rfl rfl rfl rfl rfl ?_
  refine m_refuses 5 rfl (by omega) ?_
  refine x_iret rfl rfl ?_
  exact hP
set_option maxRecDepth 20000 in
theorem m_law (h80 : V 80 = VIm 80) (h13 : V 74 13 = nI tn) (htn : tn ≤ 400) (hT : ∀ k, k < tn → T k < 256 ∧ V 81 k = sB (T k)) (hK : TokC T tn tc tv) (hM : RK (V 76) K) (ht : K 96 < 6)
  (h1 : (pTxt false tc tv (Tks T tn).length 12 0 0).1 = 1 → ∀ V' : VIT, (∀ a k, ¬ spL a k → V' a k = V a k) → (∀ a, (a = 0 ∨ a = 3 ∨ (37 ≤ a ∧ a ≤ 42)) → V' a = V a) → V' 74 13 = nI 0 → V' 74 14 = -1 → V' 74 0 = 0 → RK (V' 76) (ku (layK K (K 96) (Tks T tn).length tc tv) 96 (K 96 + 1)) → P (some (.int (nI (K 96)))) (LY ++ ext) V' VL (vr G))
  (h0 : (pTxt false tc tv (Tks T tn).length 12 0 0).1 = 0 → ∀ V' : VIT, (∀ a k, ¬ spL a k → ¬ (a = 75 ∧ k = 6) → V' a k = V a k) → (∀ a, (a = 0 ∨ a = 3 ∨ (37 ≤ a ∧ a ≤ 42) ∨ a = 76) → V' a = V a) → V' 74 13 = nI 0 → V' 74 14 = nI (plT T tn (pTxt false tc tv (Tks T tn).length 12 0 0).2.1) → V' 74 0 = -6 → V' 75 6 = V 75 6 + 1 → P (some (.int (-6))) (LY ++ ext) V' VL (vr G)) : Ex (d + 39) mi213 0 (entL [.ref 74] 1) [] (LY ++ ext) V VL (vr G) 0 0 P := by
  have hlen : (Tks T tn).length ≤ tn - 0 := tks_len tn 0
  refine x_aload_n rfl rfl ?_
  refine x_getR (u := .ref _) rfl rfl rfl rfl ?_
  refine x_bipushN (q := 96) rfl ?_
  refine x_ialE (j := 96) rfl rfl (rfl) (by omega) (hM.at 96) ?_
  refine x_bipushN (q := 6) rfl ?_
  refine x_icmpN_ne rfl (fun c9 => ?_) (fun c9 => ?_)
  rotate_left
  · exact absurd c9 (by first | decide | omega)
  refine x_aload_n rfl rfl ?_
  refine x_iconstN (q := 0) rfl ?_
  refine x_callV (M' := mi211) (As := [_]) (bc1 := 0) (bs1 := 0) (bc2 := 0) (bs2 := 0) rfl rfl rfl rfl ok211 rfl rfl (by decide) rfl rfl rfl rfl rfl rfl ?_
  refine m_readsAs (o := false) (d := d) htn h80 h13 hT hK (fun c V2 F2 a1 a2 a3 => ?_) (fun c V2 F2 a1 a2 => ?_)
  skip
  · have e76 : V2 76 = V 76 := funext (fun k => F2 76 k (by omega) (by omega) (by omega) (by omega))
    have hM2 : RK (V2 76) K := by rw [e76]; exact hM
    refine x_ifN_ne rfl (fun c29 => ?_) (fun c29 => ?_)
    rotate_left
    · exact absurd c29 (by first | decide | omega)
    refine x_aload_n rfl rfl ?_
    refine x_aload_n rfl rfl ?_
    refine x_getR (u := .ref _) rfl rfl rfl rfl ?_
    refine x_bipushN (q := 96) rfl ?_
    refine x_ialE (j := 96) rfl rfl (rfl) (by omega) (hM2.at 96) ?_
    refine x_callV (M' := mi212) (As := [_]) (bc1 := 0) (bs1 := 0) (bc2 := 0) (bs2 := 0) rfl rfl rfl rfl ok212 rfl rfl (by decide) rfl rfl rfl rfl rfl rfl ?_
    refine m_lays (by omega) (by omega) hM2 a3 (fun V3 F3 hM3 => ?_)
    skip
    have k96 : V3 76 96 = nI (K 96) := (hM3.at 96).trans (by rw [layK_lo (by omega)])
    refine x_aload_n rfl rfl ?_
    refine x_getR (u := .ref _) rfl rfl rfl rfl ?_
    refine x_bipushN (q := 96) rfl ?_
    refine x_dup2 rfl rfl rfl ?_
    refine x_ialE (j := 96) rfl rfl (rfl) (by omega) (k96) ?_
    refine x_iconstN (q := 1) rfl ?_
    refine x_iaddN rfl ?_
    refine x_iasN (j := 96) rfl rfl (rfl) (by omega) ?_
    refine x_aload_n rfl rfl ?_
    refine x_aload_n rfl rfl ?_
    refine x_getR (u := .ref _) rfl rfl rfl rfl ?_
    refine x_bipushN (q := 96) rfl ?_
    refine x_ialE (j := 96) rfl rfl (rfl) (by omega) (up_at) ?_
    refine x_iconstN (q := 1) rfl ?_
    refine x_isubN rfl ?_
    rw [show K 96 + 1 - 1 = K 96 by omega]
    refine x_callV (M' := mi155) (As := [_]) (bc1 := 0) (bs1 := 0) (bc2 := 0) (bs2 := 0) rfl rfl rfl rfl ok155 rfl rfl (by decide) rfl rfl rfl rfl rfl rfl ?_
    refine m_good ?_
    refine x_iret rfl rfl ?_
    refine h1 c _ (fun a k hs => ?_) (fun a ha => ?_) ?_ ?_ up_at ?_
    · rw [up_ne2 (by unfold spL at hs; omega), up_ne2 (by unfold spL at hs; omega), F3 a (by unfold spL at hs; omega)]; exact F2.spLf a k hs
    · rw [up_ne (by omega), up_ne (by omega), F3 a (by omega)]
      exact funext (fun k => F2 a k (by omega) (by omega) (by omega) (by omega))
    · rw [up_at' (by omega), up_ne (by omega), F3 74 (by omega)]; exact a1
    · rw [up_at' (by omega), up_ne (by omega), F3 74 (by omega)]; exact a2
    · rw [up_ne (by omega)]
      exact hM3.ku (by omega) rfl
  · refine x_ifN_ne rfl (fun c29 => ?_) (fun c29 => ?_)
    · exact absurd c29 (by first | decide | omega)
    refine x_aload_n rfl rfl ?_
    refine x_bipush rfl ?_
    refine x_callV (M' := mi154) (As := [_]) (bc1 := 0) (bs1 := 0) (bc2 := 0) (bs2 := 0) rfl rfl rfl rfl ok154 rfl rfl (by decide) rfl rfl rfl rfl rfl rfl ?_
    refine m_refuses 6 rfl (by omega) ?_
    refine x_iret rfl rfl ?_
    refine h0 c _ (fun a k hs h7 => ?_) (fun a ha => ?_) ?_ ?_ ?_ ?_
    · rw [up_ne2 h7, up_ne2 (by unfold spL at hs; omega)]; exact F2.spLf a k hs
    · rw [up_ne (by omega), up_ne (by omega)]
      exact funext (fun k => F2 a k (by omega) (by omega) (by omega) (by omega))
    · rw [up_ne (by omega), up_at' (by omega)]; exact a1
    · rw [up_ne (by omega), up_at' (by omega)]; exact a2
    · rw [up_ne (by omega), up_at]
    · rw [up_at, F2 75 6 (by omega) (by omega) (by omega) (by omega)]
end LawM
