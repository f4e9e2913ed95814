/-! ===== the model spreads: its outer loop ===== -/
section Spread2
variable {d : Nat} {V0 V : VIT} {VL : VLT} {G : VRT} {P : Post} {ext : HL} {K : KT} {dy who on : Nat}
set_option maxRecDepth 20000 in
theorem ms_l (hW : WF K) (hd4 : dy < 4) (hw : who < 64) (hon : on < 2 ^ K 93) (hM : RK (V0 76) K) (hT : OutM K dy V0) (hP : ∀ V' : VIT, FrS2 V0 V' → BMd K dy (BfA K dy who) V' → P (some (.int (agI (sh6 K (fA K on (BfA K dy who).1))))) (LY ++ ext) V' VL (vr G)) : ∀ (f k : Nat) (V : VIT) (st : BSt) (z6 z7 z8 z9 : Value), k + f = 4097 → k ≤ st.1.length → FrS2 V0 V → BMd K dy st V → BOK K dy st → bfL K dy who f k st = BfA K dy who → Ex (d + 3) mi249 47 [.ref 74, .int (nI dy), .int (nI who), .int (nI on), .int (agI (sh6 K (fA K on (st.1.take k)))), .int (nI k), z6, z7, z8, z9] [] (LY ++ ext) V VL (vr G) 0 0 P := by
  have h6 := hW.n
  have hon2 : on < 2147483648 := by have := pow6 h6; omega
  intro f
  induction f with
  | zero =>
    intro k V st z6 z7 z8 z9 hk hl hF hB hO he
    have := hO.len hW
    omega
  | succ f ih =>
    intro k V st z6 z7 z8 z9 hk hl hF hB hO he
    have hlen := hO.len hW
    have hB' := hB
    obtain ⟨b1_, b2_, b3_, b4_, b5_⟩ := hB
    rw [show bfL K dy who (f + 1) k st = (st.1[k]?).elim st (fun r => bfL K dy who f (k + 1) (bfP K dy who r (K 93) 0 st)) from rfl] at he
    cases hr : st.1[k]? with
    | none =>
      have hkl := List.getElem?_eq_none_iff.mp hr
      have he2 : st = BfA K dy who := by
        rw [← he, hr]
        rfl
      rw [List.take_of_length_le hkl]
      rw [← he2] at hP
      refine x_iload rfl rfl ?_
      refine x_aload_n rfl rfl ?_
      refine x_getE (y := 37) rfl rfl rfl b1_ ?_
      refine x_icmpN_ge rfl (fun c53 => ?_) (fun c53 => ?_)
      rotate_left
      · exact absurd c53 (by first | decide | omega)
      refine x_iload rfl rfl ?_
      refine x_iret rfl rfl ?_
      exact hP V hF hB' | some r =>
      have hkl := (List.getElem?_eq_some_iff.mp hr).1
      have hrl := hO.2.1 r (List.mem_of_getElem? hr)
      have hr6 := r6_lt h6 hrl
      have he3 : bfL K dy who f (k + 1) (bfP K dy who r (K 93) 0 st) = BfA K dy who := by
        rw [← he, hr]
        rfl
      obtain ⟨a1, a2⟩ := bfP_ok hW (who := who) (K 93) 0 st (by omega) hO hr
      have hl2 : k + 1 ≤ (bfP K dy who r (K 93) 0 st).1.length := by
        have := (List.getElem?_eq_some_iff.mp (a2.at hr)).1
        omega
      have etk : (bfP K dy who r (K 93) 0 st).1.take (k + 1) = st.1.take k ++ [r] := by
        obtain ⟨L, eL⟩ := a2.1
        rw [eL, List.take_append_of_le_length (by omega), List.take_add_one, hr]
        rfl
      have hgo : ∀ (o : Option Nat) (z7 z8 z9 : Value), o = fA K on (st.1.take k ++ [r]) → Ex (d + 3) mi249 85 [.ref 74, .int (nI dy), .int (nI who), .int (nI on), .int (agI (sh6 K o)), .int (nI k), .int (nI (r * 4 ^ (6 - K 93))), z7, z8, z9] [] (LY ++ ext) V VL (vr G) 0 0 P := by
        intro o z7 z8 z9 ho
        refine x_iconstN (q := 0) rfl ?_
        refine x_istore (ls' := [_, _, _, _, _, _, _, _, _, _]) rfl rfl rfl ?_
        refine ms_p (V0 := V0) hW hd4 hw hon2 hM hT (K 93) 0 V st _ _ (by omega) hF hB' hO hr (fun V1 z7 z8 z9 g1 g3 => ?_)
        have hk3 := fun z6 z7 z8 z9 => ih (k + 1) V1 _ z6 z7 z8 z9 (by omega) hl2 g1 g3 a1 he3
        rw [etk, ← ho] at hk3
        refine x_iincN (q := 1) (ls' := [_, _, _, _, _, _, _, _, _, _]) rfl rfl rfl rfl ?_
        refine x_goto rfl ?_
        exact hk3 _ _ _ _
      have hsn := fA_snoc (K := K) (on := on) (st.1.take k) r
      have hl9 : ∀ x, fA K on (st.1.take k) = some x → x * 4 ^ (6 - K 93) < 4096 := fun x hx => r6_lt h6 (hO.2.1 x (List.mem_of_mem_take (fA_mem _ hx)))
      cases hf : fA K on (st.1.take k) with
      | none =>
        rw [hf, if_pos rfl] at hsn
        by_cases c : agR K r on = none
        · rw [if_pos c] at hsn
          refine x_iload rfl rfl ?_
          refine x_aload_n rfl rfl ?_
          refine x_getE (y := 37) rfl rfl rfl b1_ ?_
          refine x_icmpN_ge rfl (fun c53 => ?_) (fun c53 => ?_)
          · exact absurd c53 (by first | decide | omega)
          refine x_aload_n rfl rfl ?_
          refine x_getR (u := .ref _) rfl rfl rfl rfl ?_
          refine x_iload rfl rfl ?_
          refine x_ialE (j := k) rfl rfl (rfl) (by omega) (b2_ k r hr) ?_
          refine x_istore (ls' := [_, _, _, _, _, _, _, _, _, _]) rfl rfl rfl ?_
          refine x_iload rfl rfl ?_
          refine x_iconst rfl ?_
          refine x_icmp_ne rfl (fun c68 => ?_) (fun c68 => ?_)
          · exact absurd rfl c68
          refine x_iload rfl rfl ?_
          refine x_iload_n rfl rfl ?_
          refine x_callS (M' := mi177) (As := [_, _]) (bc1 := 0) (bs1 := 0) (bc2 := 0) (bs2 := 0) rfl rfl rfl rfl ok177 rfl rfl rfl rfl rfl rfl ?_
          refine m_oneMark hr6 hon2 ?_
          rw [agR_m hW hon, c]
          refine x_iconst rfl ?_
          refine x_icmp_eq rfl (fun c78 => ?_) (fun c78 => ?_)
          rotate_left
          · exact absurd rfl c78
          exact hgo none _ _ _ hsn.symm
        · rw [if_neg c] at hsn
          have hne : ¬ agI (agR K r on) = -1 := fun z => c ((agI_none (fun c h => agR_lt h)).mp z)
          refine x_iload rfl rfl ?_
          refine x_aload_n rfl rfl ?_
          refine x_getE (y := 37) rfl rfl rfl b1_ ?_
          refine x_icmpN_ge rfl (fun c53 => ?_) (fun c53 => ?_)
          · exact absurd c53 (by first | decide | omega)
          refine x_aload_n rfl rfl ?_
          refine x_getR (u := .ref _) rfl rfl rfl rfl ?_
          refine x_iload rfl rfl ?_
          refine x_ialE (j := k) rfl rfl (rfl) (by omega) (b2_ k r hr) ?_
          refine x_istore (ls' := [_, _, _, _, _, _, _, _, _, _]) rfl rfl rfl ?_
          refine x_iload rfl rfl ?_
          refine x_iconst rfl ?_
          refine x_icmp_ne rfl (fun c68 => ?_) (fun c68 => ?_)
          · exact absurd rfl c68
          refine x_iload rfl rfl ?_
          refine x_iload_n rfl rfl ?_
          refine x_callS (M' := mi177) (As := [_, _]) (bc1 := 0) (bs1 := 0) (bc2 := 0) (bs2 := 0) rfl rfl rfl rfl ok177 rfl rfl rfl rfl rfl rfl ?_
          refine m_oneMark hr6 hon2 ?_
          rw [agR_m hW hon]
          refine x_iconst rfl ?_
          refine x_icmp_eq rfl (fun c78 => ?_) (fun c78 => ?_)
          · exact absurd c78 hne
          refine x_iload rfl rfl ?_
          refine x_istore (ls' := [_, _, _, _, _, _, _, _, _, _]) rfl rfl rfl ?_
          exact hgo (some r) _ _ _ hsn.symm | some x =>
        rw [hf, if_neg (fun z => by cases z)] at hsn
        have hx9 := hl9 x hf
        refine x_iload rfl rfl ?_
        refine x_aload_n rfl rfl ?_
        refine x_getE (y := 37) rfl rfl rfl b1_ ?_
        refine x_icmpN_ge rfl (fun c53 => ?_) (fun c53 => ?_)
        · exact absurd c53 (by first | decide | omega)
        refine x_aload_n rfl rfl ?_
        refine x_getR (u := .ref _) rfl rfl rfl rfl ?_
        refine x_iload rfl rfl ?_
        refine x_ialE (j := k) rfl rfl (rfl) (by omega) (b2_ k r hr) ?_
        refine x_istore (ls' := [_, _, _, _, _, _, _, _, _, _]) rfl rfl rfl ?_
        refine x_iload rfl rfl ?_
        refine x_iconst rfl ?_
        refine x_icmp_ne rfl (fun c68 => ?_) (fun c68 => ?_)
        rotate_left
        · exact absurd c68 (nI_m1 (show x * 4 ^ (6 - K 93) < 2147483648 by omega))
        exact hgo (some x) _ _ _ hsn.symm
set_option maxRecDepth 20000 in
theorem m_spreads (hW : WF K) (hd4 : dy < 4) (hw : who < 64) (hon : on < 2 ^ K 93) (hM : RK (V 76) K) (hT : OutM K dy V) (hP : ∀ V' : VIT, FrS2 V V' → BMd K dy (BfA K dy who) V' → P (some (.int (agI (sh6 K (fA K on (BfA K dy who).1))))) (LY ++ ext) V' VL (vr G)) : Ex (d + 3) mi249 0 (entL [.ref 74, .int (nI dy), .int (nI who), .int (nI on)] 10) [] (LY ++ ext) V VL (vr G) 0 0 P := by
  have h6 := hW.n
  have hr6 := r6_lt h6 (row0_lt hW hd4)
  have hz : ∀ (m i : Nat) (V1 : VIT), i + m = 4096 → FrS2 V V1 → (∀ k, k < i → V1 93 k = 0) → Ex (d + 3) mi249 3 [.ref 74, .int (nI dy), .int (nI who), .int (nI on), .int (nI i), .retAddr 9, .retAddr 9, .retAddr 9, .retAddr 9, .retAddr 9] [] (LY ++ ext) V1 VL (vr G) 0 0 P := by
    intro m
    induction m with
    | zero =>
      intro i V1 hi hF h0
      have hM1 : RK (up V1 74 37 (nI 0) 76) K := by rw [up_ne (by omega), hF.row 76 (by omega) (by omega) (by omega) (by omega) (by omega)]; exact hM
      have hq0 : up V1 74 37 (nI 0) 74 37 = nI 0 := up_at
      have hz0 : up V1 74 37 (nI 0) 93 (row0 K dy * 4 ^ (6 - K 93)) = 0 := by rw [up_ne (by omega)]; exact h0 _ (by omega)
      refine x_iload rfl rfl ?_
      refine x_sipushN (q := 4096) rfl ?_
      refine x_icmpN_ge rfl (fun c8 => ?_) (fun c8 => ?_)
      rotate_left
      · exact absurd c8 (by first | decide | omega)
      refine x_aload_n rfl rfl ?_
      refine x_iconstN (q := 0) rfl ?_
      refine x_putI rfl rfl rfl rfl ?_
      refine x_aload_n rfl rfl ?_
      refine x_aload_n rfl rfl ?_
      refine x_iload_n rfl rfl ?_
      refine x_callV (M' := mi181) (As := [_]) (bc1 := 0) (bs1 := 0) (bc2 := 0) (bs2 := 0) rfl rfl rfl rfl ok181 rfl rfl (by decide) rfl rfl rfl rfl rfl rfl ?_
      refine m_rowNowK hM1 hW hd4 ?_
      refine x_iconst rfl ?_
      refine x_iconst rfl ?_
      refine x_callV (M' := mi248) (As := [_, _, _]) (bc1 := 0) (bs1 := 0) (bc2 := 0) (bs2 := 0) rfl rfl rfl rfl ok248 rfl rfl (by decide) rfl rfl rfl rfl rfl rfl ?_
      refine m_reach_new hr6 hz0 hq0 (by omega) ?_
      skip
      have hF2 : FrS2 V (up (up (up (up (up (up V1 74 37 (nI 0)) 93 (row0 K dy * 4 ^ (6 - K 93)) 1) 90 0 (nI (row0 K dy * 4 ^ (6 - K 93)))) 91 (row0 K dy * 4 ^ (6 - K 93)) (-1)) 92 (row0 K dy * 4 ^ (6 - K 93)) (-1)) 74 37 (nI (0 + 1))) := fun a k q1 q2 q3 q4 q5 => by rw [up_ne2 (by omega), up_ne q3, up_ne q2, up_ne q1, up_ne q4, up_ne2 (by omega)]; exact hF a k q1 q2 q3 q4 q5
      have hB : BMd K dy (bfI K dy) (up (up (up (up (up (up V1 74 37 (nI 0)) 93 (row0 K dy * 4 ^ (6 - K 93)) 1) 90 0 (nI (row0 K dy * 4 ^ (6 - K 93)))) 91 (row0 K dy * 4 ^ (6 - K 93)) (-1)) 92 (row0 K dy * 4 ^ (6 - K 93)) (-1)) 74 37 (nI (0 + 1))) := by
        refine ⟨up_at, fun j x hx => ?_, fun x hx => ⟨fun hm => ?_, fun hm => ?_⟩, ?_, fun j x hj hx => ?_⟩
        · have hl := (List.getElem?_eq_some_iff.mp hx).1
          simp only [bfI, List.length_cons, List.length_nil] at hl
          have e : j = 0 := by omega
          subst e
          have e2 : row0 K dy = x := Option.some.inj hx
          rw [up_ne (by omega), up_ne (by omega), up_ne (by omega), up_at, e2]
        · have e : x = row0 K dy := List.mem_singleton.mp hm
          rw [e, up_ne (by omega), up_ne (by omega), up_ne (by omega), up_ne (by omega), up_at]
        · have e : x ≠ row0 K dy := fun z => hm (List.mem_singleton.mpr z)
          have hx6 := r6_lt h6 hx
          rw [up_ne (by omega), up_ne (by omega), up_ne (by omega), up_ne (by omega), up_at' (fun z => e (mul6_inj z)), up_ne (by omega)]
          exact h0 _ (by omega)
        · rw [up_ne (by omega), up_ne (by omega), up_at]
        · have hl := (List.getElem?_eq_some_iff.mp hx).1
          simp only [bfI, List.length_cons, List.length_nil] at hl
          omega
      have hM2 : RK (V 76) K := hM
      refine x_iconst rfl ?_
      refine x_istore (ls' := [_, _, _, _, _, _, _, _, _, _]) rfl rfl rfl ?_
      refine x_iconstN (q := 0) rfl ?_
      refine x_istore (ls' := [_, _, _, _, _, _, _, _, _, _]) rfl rfl rfl ?_
      exact ms_l (V0 := V) hW hd4 hw hon hM hT hP 4097 0 _ (bfI K dy) _ _ _ _ (by omega) (Nat.zero_le _) hF2 hB (bfI_ok hW hd4) rfl | succ m ih =>
      intro i V1 hi hF h0
      refine x_iload rfl rfl ?_
      refine x_sipushN (q := 4096) rfl ?_
      refine x_icmpN_ge rfl (fun c8 => ?_) (fun c8 => ?_)
      · exact absurd c8 (by first | decide | omega)
      refine x_aload_n rfl rfl ?_
      refine x_getR (u := .ref _) rfl rfl rfl rfl ?_
      refine x_iload rfl rfl ?_
      refine x_iconst rfl ?_
      refine x_zasN (j := i) rfl rfl (rfl) (by omega) ?_
      refine x_iincN (q := 1) (ls' := [_, _, _, _, _, _, _, _, _, _]) rfl rfl rfl rfl ?_
      refine x_goto rfl ?_
      exact ih (i + 1) _ (by omega) (fun a k q1 q2 q3 q4 q5 => by rw [up_ne q4]; exact hF a k q1 q2 q3 q4 q5) (fun k hk => by by_cases c : k = i; subst c; exact up_at; rw [up_at' c]; exact h0 k (by omega))
  refine x_iconstN (q := 0) rfl ?_
  refine x_istore (ls' := [_, _, _, _, _, _, _, _, _, _]) rfl rfl rfl ?_
  exact hz 4096 0 V (by omega) (fun _ _ _ _ _ _ _ => rfl) (fun k hk => absurd hk (by omega))
end Spread2
