/-! ===== row: joined ===== -/
set_option maxRecDepth 20000 in
theorem up_self {VI : VIT} {a k : Nat} {x : Int32} (h : VI a k = x) : up VI a k x = VI := by
  funext b i
  by_cases c : b = a ∧ i = k
  · rw [c.1, c.2, up_at, h]
  · exact up_ne2 c
set_option maxRecDepth 20000 in
theorem row_fin {T : Nat → Nat} {tn e : Nat} {K : KT} (he : (tn % 3 = 0 ∧ e = 0) ∨ (tn % 3 ≠ 0 ∧ e = 1)) : rowA T tn K ((tn + 2) / 3) = ((rowA T tn K (tn / 3)).1, (rowA T tn K (tn / 3)).2.1, e + (rowA T tn K (tn / 3)).2.2) := by
  rcases he with ⟨h, rfl⟩ | ⟨h, rfl⟩
  · rw [show (tn + 2) / 3 = tn / 3 by omega, Nat.zero_add]
  · rw [show (tn + 2) / 3 = tn / 3 + 1 by omega, rowA_no (fun z => absurd z.1 (by omega)), Nat.add_comm 1]
def rtP (a k : Nat) : Prop := (3 ≤ a ∧ a ≤ 6) ∨ a = 45 ∨ a = 76 ∨ (a = 0 ∧ (k = 13 ∨ k = 15 ∨ k = 17)) ∨ (a = 74 ∧ (k = 0 ∨ k = 6 ∨ k = 13 ∨ k = 32))
set_option maxRecDepth 20000 in
theorem St.row {j : Nat} {ext : HL} {G : VRT} {K K' : KT} {tn : Nat} {T : Nat → Nat} {u : Nat} {US : Nat → KT} {lg : Nat → Nat} {VI VI' : VIT} (h : St j ext G K tn T u US lg VI) (hF : ∀ a k, ¬ rtP a k → VI' a k = VI a k) (hW : WF K') (hX : RW 3 K' VI') (hM : RK (VI' 76) K') (c1 : VI' 45 2 = 0) (c2 : VI' 74 32 = 0) (t1 : VI' 0 13 = nI 0) (t2 : VI' 74 13 = nI 0) (hs : VI' 0 17 = VI' 74 0) (hg : VI' 0 15 = VI' 74 6) (hL : ∀ i, 51 ≤ i → i ≠ 93 → K' i = K i) : St (j + 1) ext G K' 0 T 0 (fun _ => K') (fun _ => 0) VI' := by
  obtain ⟨h1, h2, h3, h4, h5, h6, h7, h8, h9, h10, h11, h12⟩ := h
  have hk : ∀ a k, (a = 0 → k ≠ 13 ∧ k ≠ 15 ∧ k ≠ 17) → (a = 74 → k ≠ 0 ∧ k ≠ 6 ∧ k ≠ 13 ∧ k ≠ 32) → (a < 3 ∨ 6 < a) → a ≠ 45 → a ≠ 76 → VI' a k = VI a k := fun a k q0 q1 q2 q3 q4 => hF a k (by unfold rtP; omega)
  have hr : ∀ a, a ≠ 0 → a ≠ 74 → (a < 3 ∨ 6 < a) → a ≠ 45 → a ≠ 76 → VI' a = VI a := fun a q0 q1 q2 q3 q4 => funext (fun k => hk a k (fun z => absurd z q0) (fun z => absurd z q1) q2 q3 q4)
  refine ⟨hW, hX, hM, ?_, ⟨by omega, t1, t2, fun k hk => absurd hk (by omega)⟩, Und.none c1 c2, h7.same (by rw [hr 70 (by omega) (by omega) (by omega) (by omega) (by omega)]) (hk 74 50 (by omega) (by omega) (by omega) (by omega) (by omega)) (hr 71 (by omega) (by omega) (by omega) (by omega) (by omega)) (hr 99 (by omega) (by omega) (by omega) (by omega) (by omega)), (h8.same (by rw [hr 63 (by omega) (by omega) (by omega) (by omega) (by omega)]) (hr 65 (by omega) (by omega) (by omega) (by omega) (by omega))).next, h9.same (hk 0 12 (by omega) (by omega) (by omega) (by omega) (by omega)) (fun a _ _ => hr a (by omega) (by omega) (by omega) (by omega) (by omega)) (hr 77 (by omega) (by omega) (by omega) (by omega) (by omega)) (hr 78 (by omega) (by omega) (by omega) (by omega) (by omega)) (fun a _ => hr a (by omega) (by omega) (by omega) (by omega) (by omega)), h10.same (hL 96 (by omega) (by omega)) (fun i _ _ => hL i (by omega) (by omega)) (fun k _ => hL _ (by omega) (by omega)) (fun k _ => hL _ (by omega) (by omega)) h1.l6 (fun a _ => hr a (by omega) (by omega) (by omega) (by omega) (by omega)), ?_, h12⟩
  · obtain ⟨m1, m2, m3, m4, m5⟩ := h4
    refine ⟨hs, ?_, hg, ?_, fun k hk' => ?_⟩
    · rw [hk 0 14 (by omega) (by omega) (by omega) (by omega) (by omega), hk 74 14 (by omega) (by omega) (by omega) (by omega) (by omega)]; exact m2
    · rw [hk 0 16 (by omega) (by omega) (by omega) (by omega) (by omega), hk 74 42 (by omega) (by omega) (by omega) (by omega) (by omega)]; exact m4
    · rw [hr 73 (by omega) (by omega) (by omega) (by omega) (by omega), hr 75 (by omega) (by omega) (by omega) (by omega) (by omega)]; exact m5 k hk'
  · rw [hr 80 (by omega) (by omega) (by omega) (by omega) (by omega)]; exact h11
section Row4
variable {d : Nat} {VI : VIT} {VL : VLT} {G : VRT} {P : Post} {ext : HL} {K : KT} {tn e : Nat} {T : Nat → Nat}
set_option maxRecDepth 20000 in
theorem x_row_none (h0 : VI 0 13 = nI 0) (hP : P (some (.int (-6))) (LY ++ ext) (up (up VI 0 17 (-6)) 73 5 (VI 73 5 + 1)) VL (vr G)) : Ex (d + 2) mi116 0 (entL [.ref 0] 3) [] (LY ++ ext) VI VL (vr G) 0 0 P := by
  refine x_aload_n rfl rfl ?_
  refine x_getE (y := 13) rfl rfl rfl (h0) ?_
  refine x_if_ne rfl (fun c4 => ?_) (fun c4 => ?_)
  · exact absurd c4 (by first | decide | omega)
  refine x_aload_n rfl rfl ?_
  refine x_bipush rfl ?_
  refine x_callV (M' := mi145) (As := [_]) (bc1 := 0) (bs1 := 0) (bc2 := 0) (bs2 := 0) rfl rfl rfl rfl ok145 rfl rfl (by decide) rfl rfl rfl rfl rfl rfl ?_
  refine s_settled_ref 5 rfl (by decide) ?_
  refine x_iret rfl rfl ?_
  exact hP
set_option maxRecDepth 20000 in
theorem m_row_none (h0 : VI 74 13 = nI 0) (hP : P (some (.int (-6))) (LY ++ ext) (up (up VI 74 0 (-6)) 75 6 (VI 75 6 + 1)) VL (vr G)) : Ex (d + 2) mi186 0 (entL [.ref 74] 6) [] (LY ++ ext) VI VL (vr G) 0 0 P := by
  refine x_aload_n rfl rfl ?_
  refine x_getE (y := 13) rfl rfl rfl (h0) ?_
  refine x_istore_n (ls' := [_, _, _, _, _, _]) rfl rfl rfl ?_
  refine x_aload_n rfl rfl ?_
  refine x_iconst rfl ?_
  refine x_putI rfl rfl rfl rfl ?_
  rw [up_self (x := 0) h0]
  refine x_iload_n rfl rfl ?_
  refine x_if_ne rfl (fun c11 => ?_) (fun c11 => ?_)
  · exact absurd c11 (by first | decide | omega)
  refine x_aload_n rfl rfl ?_
  refine x_bipush rfl ?_
  refine x_callV (M' := mi154) (As := [_]) (bc1 := 0) (bs1 := 0) (bc2 := 0) (bs2 := 0) rfl rfl rfl rfl ok154 rfl rfl (by decide) rfl rfl rfl rfl rfl rfl ?_
  refine m_refuses 6 rfl (by decide) ?_
  refine x_iret rfl rfl ?_
  exact hP
set_option maxRecDepth 20000 in
theorem x_row_ok (hW : WF K) (hX : RW 3 K VI) (hT : XTape tn T VI) (h0 : 0 < tn) (hP : ∀ V : VIT, RW 3 (rowA T tn K ((tn + 2) / 3)).1 V → V 0 15 = nI (rowA T tn K ((tn + 2) / 3)).2.2 → FrR (up VI 0 15 (nI 0)) V → P (some (.int (nI (rowA T tn K ((tn + 2) / 3)).2.1))) (LY ++ ext) (up (up (up V 0 13 (nI 0)) 45 2 0) 0 17 0) VL (vr G)) : Ex (d + 2) mi116 0 (entL [.ref 0] 3) [] (LY ++ ext) VI VL (vr G) 0 0 P := by
  have h4 := hT.1
  have hT1 : XTape tn T (up VI 0 15 (nI 0)) := hT
  obtain ⟨w1, w2, w3, w4⟩ := rowA_WF (T := T) (tn := tn) hW ((tn + 2) / 3)
  refine x_aload_n rfl rfl ?_
  refine x_getE (y := 13) rfl rfl rfl (hT.2.1) ?_
  refine x_ifN_ne rfl (fun c4 => ?_) (fun c4 => ?_)
  rotate_left
  · exact absurd c4 (by first | decide | omega)
  refine x_iconstN (q := 0) rfl ?_
  refine x_istore_n (ls' := [_, _, _]) rfl rfl rfl ?_
  refine x_aload_n rfl rfl ?_
  refine x_iconstN (q := 0) rfl ?_
  refine x_putI rfl rfl rfl rfl ?_
  refine x_iconstN (q := 0) rfl ?_
  refine x_istore_n (ls' := [_, _, _]) rfl rfl rfl ?_
  skip
  refine x_row_loop hW hT1 (fun V z v1 v2 v3 => ?_) ((tn + 2) / 3) 0 _ (by omega) (hX.same (fun a _ _ => up_ne (by omega))) up_at (fun _ _ _ _ => rfl)
  refine x_aload_n rfl rfl ?_
  refine x_iconstN (q := 0) rfl ?_
  refine x_putI rfl rfl rfl rfl ?_
  refine x_aload_n rfl rfl ?_
  refine x_getR (u := .ref _) rfl rfl rfl rfl ?_
  refine x_callV (M' := mi6) (As := []) (bc1 := 0) (bs1 := 0) (bc2 := 0) (bs2 := 0) rfl rfl rfl rfl ok6 rfl rfl (by decide) rfl rfl rfl rfl rfl rfl ?_
  refine s_forgetAll ?_
  refine x_aload_n rfl rfl ?_
  refine x_iload_n rfl rfl ?_
  refine x_callV (M' := mi145) (As := [_]) (bc1 := 0) (bs1 := 0) (bc2 := 0) (bs2 := 0) rfl rfl rfl rfl ok145 rfl rfl (by decide) rfl rfl rfl rfl rfl rfl ?_
  refine s_settled_ok (by omega) ?_
  refine x_iret rfl rfl ?_
  exact hP V v1 v2 v3
set_option maxRecDepth 20000 in
theorem m_row_ok (hW : WF K) (hM : RK (VI 76) K) (hT : MTape tn T VI) (hl : VI 74 13 = nI tn) (h0 : 0 < tn) (he : (tn % 3 = 0 ∧ e = 0) ∨ (tn % 3 ≠ 0 ∧ e = 1)) (hP : ∀ V : VIT, RK (V 76) (rowA T tn K (tn / 3)).1 → V 74 6 = nI (e + (rowA T tn K (tn / 3)).2.2) → FrM (up (up VI 74 13 (nI 0)) 74 6 (nI e)) V → P (some (.int (nI (rowA T tn K (tn / 3)).2.1))) (LY ++ ext) (up (up V 74 32 0) 74 0 0) VL (vr G)) : Ex (d + 2) mi186 0 (entL [.ref 74] 6) [] (LY ++ ext) VI VL (vr G) 0 0 P := by
  have h4 := hT.1
  have hT1 : MTape tn T (up (up VI 74 13 (nI 0)) 74 6 (nI e)) := hT
  have hk : ∀ y x : Value, _ := fun y x => m_row_loop (d := d) (P := P) (VL := VL) (G := G) (ext := ext) hW hT1 (by omega) (fun V z y x v1 v2 v3 => by
    refine x_aload_n rfl rfl ?_
    refine x_iload_n rfl rfl ?_
    refine x_callV (M' := mi156) (As := [_]) (bc1 := 0) (bs1 := 0) (bc2 := 0) (bs2 := 0) rfl rfl rfl rfl ok156 rfl rfl (by decide) rfl rfl rfl rfl rfl rfl ?_
    refine m_settled ?_
    refine x_iret rfl rfl ?_
    exact hP V v1 v2 v3) (tn / 3) 0 (up (up VI 74 13 (nI 0)) 74 6 (nI e)) y x (by omega) (by rw [up_ne (by omega), up_ne (by omega)]; exact hM) up_at (fun _ _ _ _ => rfl)
  rcases he with ⟨h, rfl⟩ | ⟨h, rfl⟩
  · refine x_aload_n rfl rfl ?_
    refine x_getE (y := 13) rfl rfl rfl (hl) ?_
    refine x_istore_n (ls' := [_, _, _, _, _, _]) rfl rfl rfl ?_
    refine x_aload_n rfl rfl ?_
    refine x_iconstN (q := 0) rfl ?_
    refine x_putI rfl rfl rfl rfl ?_
    refine x_iload_n rfl rfl ?_
    refine x_ifN_ne rfl (fun c11 => ?_) (fun c11 => ?_)
    rotate_left
    · exact absurd c11 (by first | decide | omega)
    refine x_iconstN (q := 0) rfl ?_
    refine x_istore_n (ls' := [_, _, _, _, _, _]) rfl rfl rfl ?_
    refine x_aload_n rfl rfl ?_
    refine x_iload_n rfl rfl ?_
    refine x_iconstN (q := 3) rfl ?_
    refine x_iremN rfl ?_
    refine x_ifN_ne rfl (fun c27 => ?_) (fun c27 => ?_)
    · exact absurd c27 (by first | decide | omega)
    refine x_iconstN (q := 0) rfl ?_
    refine x_goto rfl ?_
    refine x_putI rfl rfl rfl rfl ?_
    refine x_iconstN (q := 0) rfl ?_
    refine x_istore_n (ls' := [_, _, _, _, _, _]) rfl rfl rfl ?_
    exact hk _ _
  · refine x_aload_n rfl rfl ?_
    refine x_getE (y := 13) rfl rfl rfl (hl) ?_
    refine x_istore_n (ls' := [_, _, _, _, _, _]) rfl rfl rfl ?_
    refine x_aload_n rfl rfl ?_
    refine x_iconstN (q := 0) rfl ?_
    refine x_putI rfl rfl rfl rfl ?_
    refine x_iload_n rfl rfl ?_
    refine x_ifN_ne rfl (fun c11 => ?_) (fun c11 => ?_)
    rotate_left
    · exact absurd c11 (by first | decide | omega)
    refine x_iconstN (q := 0) rfl ?_
    refine x_istore_n (ls' := [_, _, _, _, _, _]) rfl rfl rfl ?_
    refine x_aload_n rfl rfl ?_
    refine x_iload_n rfl rfl ?_
    refine x_iconstN (q := 3) rfl ?_
    refine x_iremN rfl ?_
    refine x_ifN_ne rfl (fun c27 => ?_) (fun c27 => ?_)
    rotate_left
    · exact absurd c27 (by first | decide | omega)
    refine x_iconstN (q := 1) rfl ?_
    refine x_putI rfl rfl rfl rfl ?_
    refine x_iconstN (q := 0) rfl ?_
    refine x_istore_n (ls' := [_, _, _, _, _, _]) rfl rfl rfl ?_
    exact hk _ _
end Row4
section Join9
variable {j : Nat} {lay : HL} {VI : VIT} {VL : VLT} {VR : VRT}
set_option maxRecDepth 20000 in
theorem j_row (h : Inv j lay VI VL VR) : Pr 100 mi116 mi186 [] lay VI VL VR (Inv (j + 1)) := by
  obtain ⟨ext, G, K, tn, T, u, US, lg, rfl, rfl, hS⟩ := h
  have hW := hS.1
  have hX := hS.2.1
  have hM := hS.2.2.1
  have hT := hS.2.2.2.2.1
  by_cases h0 : tn = 0
  · subst h0
    exact Pr_ref hS 5 (by omega) (-6) (fun P z => x_row_none hT.2.1 z) (fun P z => m_row_none hT.2.2.1 z)
  · have hXT : XTape tn T VI := ⟨hT.1, hT.2.1, fun k hk => ⟨(hT.2.2.2 k hk).1, (hT.2.2.2 k hk).2.1⟩⟩
    have hMT : MTape tn T VI := ⟨hT.1, fun k hk => ⟨(hT.2.2.2 k hk).1, (hT.2.2.2 k hk).2.2⟩⟩
    obtain ⟨e, he⟩ : ∃ e, (tn % 3 = 0 ∧ e = 0) ∨ (tn % 3 ≠ 0 ∧ e = 1) := by
      by_cases z : tn % 3 = 0
      · exact ⟨0, Or.inl ⟨z, rfl⟩⟩
      · exact ⟨1, Or.inr ⟨z, rfl⟩⟩
    obtain ⟨w1, w2, w3, w4⟩ := rowA_WF (T := T) (tn := tn) hW (tn / 3)
    have ef := row_fin (T := T) (K := K) he
    refine ExS.budget (bc := 0) (bs := 0) (x_row_ok hW hX hXT (by omega) (fun V v1 v2 v3 => ?_)) (by omega) (by omega)
    rw [ef] at v1 v2 ⊢
    have e1 : ∀ a k, (a < 3 ∨ 6 < a) → ¬ (a = 0 ∧ (k = 13 ∨ k = 15 ∨ k = 17)) → ¬ (a = 45 ∧ k = 2) → up (up (up V 0 13 (nI 0)) 45 2 0) 0 17 0 a k = VI a k := fun a k q1 q2 q3 => by
      rw [up_ne2 (by omega), up_ne2 (by omega), up_ne2 (by omega), v3 a k q1 (by omega), up_ne2 (by omega)]
    have r76 : up (up (up V 0 13 (nI 0)) 45 2 0) 0 17 0 76 = VI 76 := funext (fun k => e1 76 k (by omega) (by omega) (by omega))
    have r81 : up (up (up V 0 13 (nI 0)) 45 2 0) 0 17 0 81 = VI 81 := funext (fun k => e1 81 k (by omega) (by omega) (by omega))
    refine ⟨_, ext, rfl, rfl, m_row_ok (K := K) (tn := tn) (T := T) hW (by rw [r76]; exact hM) ⟨hMT.1, by rw [r81]; exact hMT.2⟩ ((e1 74 13 (by omega) (by omega) (by omega)).trans hT.2.2.1) (by omega) he (fun W q1 q2 q3 => ⟨rfl, St.inv (hS.row (K' := (rowA T tn K (tn / 3)).1) ?_ w1 ?_ ?_ ?_ rfl ?_ ?_ ?_ ?_ w4)⟩)⟩
    · intro a k hn
      unfold rtP at hn
      rw [up_ne2 (by omega), up_ne2 (by omega), q3 a k (by omega) (by omega), up_ne2 (by omega), up_ne2 (by omega)]
      exact e1 a k (by omega) (by omega) (by omega)
    · refine v1.same (fun a c1 c2 => funext (fun k => ?_))
      rw [up_ne2 (by omega), up_ne2 (by omega), q3 a k (by omega) (by omega), up_ne2 (by omega), up_ne2 (by omega), up_ne2 (by omega), up_ne2 (by omega), up_ne2 (by omega)]
    · rw [up_ne (by omega), up_ne (by omega)]; exact q1
    · rw [up_ne2 (by omega), up_ne2 (by omega), q3 45 2 (by omega) (by omega), up_ne2 (by omega), up_ne2 (by omega)]; rfl
    · rw [up_ne2 (by omega), up_ne2 (by omega), q3 0 13 (by omega) (by omega), up_ne2 (by omega), up_ne2 (by omega)]; rfl
    · rw [up_ne2 (by omega), up_ne2 (by omega), q3 74 13 (by omega) (by omega), up_ne2 (by omega)]; rfl
    · rw [up_ne2 (by omega), up_ne2 (by omega), q3 0 17 (by omega) (by omega), up_ne2 (by omega), up_ne2 (by omega)]; rfl
    · rw [up_ne2 (by omega), up_ne2 (by omega), q3 0 15 (by omega) (by omega), up_ne2 (by omega), up_ne2 (by omega), up_ne2 (by omega), up_ne2 (by omega), up_ne2 (by omega), v2]
      exact q2.symm
end Join9
