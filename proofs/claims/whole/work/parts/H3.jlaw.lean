/-! ===== law joined ===== -/
set_option maxRecDepth 20000 in
theorem vgL_lo {G : VRT} {n t a k : Nat} (h : a < n) (h2 : ¬ (a = 13 ∧ k = t)) : vr (gL G n t) a k = vr G a k := by
  unfold vr
  split
  · rfl
  · unfold gL gT
    rw [if_neg h2, if_neg (by omega), if_neg (by omega)]
set_option maxRecDepth 20000 in
theorem vgL_13 {G : VRT} {n t : Nat} : vr (gL G n t) 13 t = .ref n := by
  show gL G n t 13 t = _
  unfold gL
  rw [if_pos ⟨rfl, rfl⟩]
set_option maxRecDepth 20000 in
theorem vgL_n {G : VRT} {n t : Nat} (h : 100 ≤ n) : vr (gL G n t) n 0 = .ref (n + 1) ∧ vr (gL G n t) n 1 = .ref (n + 2) := by
  rw [vr_hi h, vr_hi h]
  unfold gL gT
  rw [if_neg (by omega), if_pos rfl, if_pos rfl, if_neg (by omega), if_pos rfl, if_neg (by omega), if_pos rfl]
  exact ⟨rfl, rfl⟩
set_option maxRecDepth 20000 in
theorem Laws.grow {K K' : KT} {w n t : Nat} {lay e : HL} {VI VI' : VIT} {G : VRT} (h : Laws K w lay VI (vr G)) (hw : w < 100) (hw2 : ∀ i, i < K 96 → ¬ (w = 13 ∧ i = t)) (hlen : lay.length = n) (hn : 100 ≤ n) (hK : ∀ i, i < K 96 → K' (98 + i) = K (98 + i) ∧ ∀ k, k < 400 → K' (105 + 400 * i + k) = K (105 + 400 * i + k) ∧ K' (2905 + 400 * i + k) = K (2905 + 400 * i + k)) (hV : ∀ a, 100 ≤ a → a < n → VI' a = VI a) : ∀ i, i < K 96 → ∃ b, vr (gL G n t) w i = .ref b ∧ vr (gL G n t) b 0 = .ref (b + 1) ∧ vr (gL G n t) b 1 = .ref (b + 2) ∧ LawAt K' i (lay ++ e) VI' b := by
  intro i hi
  obtain ⟨b, h1, h2, h3, h4⟩ := h i hi
  obtain ⟨k1, k2⟩ := hK i hi
  have hb : b < n := by rw [← hlen]; exact (List.getElem?_eq_some_iff.mp h4.2.2.2.1).1
  have hb2 := h4.2.2.1
  refine ⟨b, ?_, ?_, ?_, h4.same k1 (fun k hk => (k2 k hk).1) (fun k hk => (k2 k hk).2) (fun a q1 q2 => hV a q1 (by omega))⟩
  · rw [vgL_lo (by omega) (hw2 i hi)]; exact h1
  · rw [vgL_lo hb (by omega)]; exact h2
  · rw [vgL_lo hb (by omega)]; exact h3
set_option maxRecDepth 20000 in
theorem St.law {j : Nat} {ext : HL} {G : VRT} {K K' : KT} {tn N L n : Nat} {T tc tv cd : Nat → Nat} {u : Nat} {US : Nat → KT} {lg : Nat → Nat} {cl : List Cla} {VI V' : VIT} (h : St j ext G K tn T u US lg VI) (hn : (LY ++ ext).length = n) (h96 : K 96 < 6) (hK' : K' = ku (layK K (K 96) N tc tv) 96 (K 96 + 1)) (hF : ∀ a k, a < n → ¬ spL a k → V' a k = VI a k) (hM' : RK (V' 76) K') (h3 : V' 3 14 = nI (K 96 + 1)) (s1 : V' 0 17 = 0) (s2 : V' 74 0 = 0) (f1 : V' 0 14 = -1) (f2 : V' 74 14 = -1) (t1 : V' 0 13 = nI 0) (t2 : V' 74 13 = nI 0) (hN : N ≤ 400) (hz : ∀ i, N ≤ i → tc i = 0 ∧ tv i = 0) (hp : pTxt false tc tv N 12 0 0 = (1, N, cl)) (hL : L ≤ 896) (x1 : V' n 2 = nI cl.length) (x2 : ∀ k, k < L → cd k < 1000000 ∧ V' (n + 2) k = nI (cd k)) (x3 : TextOf (V' (n + 1)) cd L lwm cl) : St (j + 1) (ext ++ [.inr 9, .inl (0, 72), .inl (0, L)]) (gL G n (K 96)) K' 0 T u US lg V' := by
  have hn100 : 100 ≤ n := by rw [← hn, List.length_append, LY_len]; omega
  obtain ⟨h1, h2, h3', h4, h5, h6, h7, h8, ⟨hm, i1, i2, i3, i4⟩, h10, h11, h12⟩ := h
  have hr : ∀ a, a < n → (∀ k, ¬ spL a k) → V' a = VI a := fun a ha q => funext (fun k => hF a k ha (q k))
  have klo : ∀ i, i < 98 → i ≠ 96 → K' i = K i := fun i q1 q2 => by rw [hK', ku_ne q2, layK_lo q1]
  have k96 : K' 96 = K 96 + 1 := by rw [hK', ku_same]
  have h93 := h1.1
  have h94 : K 94 ≤ 8 := h1.2.1
  have h95 : K 95 ≤ 8 := h1.2.2.1
  have hold : ∀ i, i < K 96 → K' (98 + i) = K (98 + i) ∧ ∀ k, k < 400 → K' (105 + 400 * i + k) = K (105 + 400 * i + k) ∧ K' (2905 + 400 * i + k) = K (2905 + 400 * i + k) := fun i hi => by
    refine ⟨?_, fun k hk => ⟨?_, ?_⟩⟩
    · rw [hK', ku_ne (by omega), layK_o (by omega) (by omega) (by omega) hN]
    · rw [hK', ku_ne (by omega), layK_o (by omega) (by omega) (by omega) hN]
    · rw [hK', ku_ne (by omega), layK_o (by omega) (by omega) (by omega) hN]
  obtain ⟨l0, l1, l2⟩ := layT_at (ext := ext) (L := L) hn
  rw [layT_eq] at l0 l1 l2
  have happ : LY ++ (ext ++ [.inr 9, .inl (0, 72), .inl (0, L)]) = (LY ++ ext) ++ [.inr 9, .inl (0, 72), .inl (0, L)] := (List.append_assoc _ _ _).symm
  have hVhi : ∀ a, 100 ≤ a → a < n → V' a = VI a := fun a q1 q2 => hr a q2 (fun k => by unfold spL; omega)
  have hX : RW 3 K' V' := by
    obtain ⟨w1, w2, w3, w4, w5, w6, w7, w8, w9, w10, w11, w12, w13, w14⟩ := h2
    have g3 : ∀ k, k ≠ 14 → V' 3 k = VI 3 k := fun k q => hF 3 k (by omega) (by unfold spL; omega)
    have gr : ∀ a, 3 < a → a ≤ 12 → V' a = VI a := fun a q1 q2 => hr a (by omega) (fun k => by unfold spL; omega)
    have elm : lmK K' = lmK K := by
      show mskN (fun p => K' (24 + p)) (K' 93) = _
      rw [klo 93 (by omega) (by omega)]
      exact mskN_congr (fun p hp => klo _ (by omega) (by omega))
    have edm : dmK K' = dmK K := by
      show mskN (fun r => K' (30 + r)) (K' 94) = _
      rw [klo 94 (by omega) (by omega)]
      exact mskN_congr (fun p hp => klo _ (by omega) (by omega))
    refine ⟨?_, ?_, ?_, ?_, ?_, ?_, ?_, ?_, ?_, ?_, ?_, ?_, ?_, ?_⟩
    · rw [g3 0 (by omega), klo 93 (by omega) (by omega)]; exact w1
    · rw [g3 1 (by omega), elm]; exact w2
    · rw [g3 5 (by omega), klo 94 (by omega) (by omega)]; exact w3
    · rw [g3 6 (by omega), edm]; exact w4
    · rw [g3 9 (by omega), klo 95 (by omega) (by omega)]; exact w5
    · rw [k96]; exact h3
    · rw [g3 15 (by omega), klo 97 (by omega) (by omega)]; exact w7
    · intro p hp
      rw [klo 93 (by omega) (by omega)] at hp
      rw [gr 4 (by omega) (by omega), gr 5 (by omega) (by omega), klo _ (by omega) (by omega), klo _ (by omega) (by omega)]; exact w8 p hp
    · intro p q hp hq
      rw [klo 93 (by omega) (by omega)] at hp
      rw [gr 6 (by omega) (by omega), klo _ (by omega) (by omega)]; exact w9 p q hp hq
    · intro r hr2
      rw [klo 94 (by omega) (by omega)] at hr2
      rw [gr 7 (by omega) (by omega), gr 8 (by omega) (by omega), klo _ (by omega) (by omega), klo _ (by omega) (by omega)]; exact w10 r hr2
    · intro k hk
      rw [klo 95 (by omega) (by omega)] at hk
      rw [gr 9 (by omega) (by omega), gr 10 (by omega) (by omega), gr 11 (by omega) (by omega), klo _ (by omega) (by omega), klo _ (by omega) (by omega), klo _ (by omega) (by omega)]; exact w11 k hk
    · rw [gr 12 (by omega) (by omega), klo 38 (by omega) (by omega)]; exact w12
    · rw [gr 12 (by omega) (by omega), klo 91 (by omega) (by omega)]; exact w13
    · rw [gr 12 (by omega) (by omega), klo 92 (by omega) (by omega)]; exact w14
  have hW : WF K' := by
    obtain ⟨w1, w2, w3, w4, w5, w6, w7, w8, w9, w10, w11, w12⟩ := h1
    unfold WF
    rw [k96, klo 93 (by omega) (by omega), klo 94 (by omega) (by omega), klo 95 (by omega) (by omega), klo 97 (by omega) (by omega), klo 38 (by omega) (by omega), klo 91 (by omega) (by omega), klo 92 (by omega) (by omega)]
    refine ⟨w1, w2, w3, by omega, by omega, w6, w7, w8, fun p hp => ?_, fun p q hp hq => ?_, fun r hr2 => ?_, fun k hk => ?_⟩
    · rw [klo _ (by omega) (by omega), klo _ (by omega) (by omega), klo _ (by omega) (by omega)]; exact w9 p hp
    · rw [klo _ (by omega) (by omega)]; exact w10 p q hp hq
    · rw [klo _ (by omega) (by omega), klo _ (by omega) (by omega), klo _ (by omega) (by omega)]; exact w11 r hr2
    · rw [klo _ (by omega) (by omega), klo _ (by omega) (by omega), klo _ (by omega) (by omega)]; exact w12 k hk
  have hs : ∀ a k, (a = 0 ∧ k ≠ 13 ∧ k ≠ 14 ∧ k ≠ 17) ∨ (12 < a ∧ a < 37) ∨ (42 < a ∧ a < 74) ∨ (a = 74 ∧ 21 < k) ∨ (a = 74 ∧ k = 6) ∨ (76 < a ∧ a < 83) ∨ (85 < a ∧ a < 100) ∨ a = 75 → V' a k = VI a k := fun a k q => hF a k (by omega) (by unfold spL; omega)
  have hsr : ∀ a, (12 < a ∧ a < 37) ∨ (42 < a ∧ a < 74) ∨ (76 < a ∧ a < 83) ∨ (85 < a ∧ a < 100) ∨ a = 75 → V' a = VI a := fun a q => funext (fun k => hs a k (by omega))
  refine ⟨hW, hX, hM', ?_, ⟨by omega, t1, t2, fun k hk => absurd hk (by omega)⟩, (h6.K (fun i hi => klo i (by omega) (by omega)) (klo 93 (by omega) (by omega)) (klo 94 (by omega) (by omega))).same (hs 45 2 (by omega)) (hs 74 32 (by omega)) (hsr 46 (by omega)) (hsr 88 (by omega)), h7.same (hs 70 3 (by omega)) (hs 74 50 (by omega)) (hsr 71 (by omega)) (hsr 99 (by omega)), (h8.same (hs 63 6 (by omega)) (hsr 65 (by omega))).next, ⟨hm, i1, ?_, ?_, ?_⟩, ?_, ?_, ?_⟩
  · obtain ⟨m1, m2, m3, m4, m5⟩ := h4
    refine ⟨by rw [s1, s2], by rw [f1, f2], ?_, ?_, fun k hk => ?_⟩
    · rw [hs 0 15 (by omega), hs 74 6 (by omega)]; exact m3
    · rw [hs 0 16 (by omega), hs 74 42 (by omega)]; exact m4
    · rw [hsr 73 (by omega), hsr 75 (by omega)]; exact m5 k hk
  · rw [hs 0 12 (by omega)]; exact i2
  · rw [hsr 78 (by omega)]; exact i3
  · intro k hk hb
    obtain ⟨KI, q1, q2, q3, q4⟩ := i4 k hk hb
    refine ⟨KI, q1, q2.same (fun a r1 r2 => hsr a (by omega)), ?_, ?_⟩
    · rw [hsr 77 (by omega)]; exact q3
    · rw [happ]
      exact Laws.grow q4 (by omega) (fun i hi => by omega) hn hn100 (fun i hi => ⟨rfl, fun k hk => ⟨rfl, rfl⟩⟩) hVhi
  · intro i hi
    rw [k96] at hi
    by_cases c : i < K 96
    · rw [happ]
      exact Laws.grow h10 (by omega) (fun i hi => by omega) hn hn100 hold hVhi i c
    · have ei : i = K 96 := by omega
      subst ei
      obtain ⟨g0, g1⟩ := vgL_n (G := G) (n := n) (t := K 96) hn100
      have e1 : ktc K' (K 96) = tc := by
        funext k
        unfold ktc
        rw [hK', ku_ne (by omega), layK_n]
        by_cases c2 : k < N
        · rw [if_pos c2, ku_ne (by omega), layK_c c2 (by omega)]
        · rw [if_neg c2]; exact (hz k (by omega)).1.symm
      have e2 : ktv K' (K 96) = tv := by
        funext k
        unfold ktv
        rw [hK', ku_ne (by omega), layK_n]
        by_cases c2 : k < N
        · rw [if_pos c2, ku_ne (by omega), layK_v c2 hN (by omega)]
        · rw [if_neg c2]; exact (hz k (by omega)).2.symm
      have e98 : K' (98 + K 96) = N := by rw [hK', ku_ne (by omega), layK_n]
      have e3 : kcl K' (K 96) = (1, N, cl) := by unfold kcl; rw [e1, e2, e98]; exact hp
      refine ⟨n, vgL_13, g0, g1, by rw [e98]; exact hN, by rw [e3], hn100, l0, l1, L, cd, hL, l2, by rw [e3]; exact x1, x2, by rw [e3]; exact x3⟩
  · rw [hsr 80 (by omega)]; exact h11
  · intro w hw i hi
    by_cases c : w = 13 ∧ i = K 96
    · obtain ⟨rfl, rfl⟩ := c
      exact Or.inr ⟨n, vgL_13, l0⟩
    · rw [vgL_lo (by omega) c]
      rcases h12 w hw i hi with q | ⟨b, q1, q2⟩
      · exact Or.inl q
      · refine Or.inr ⟨b, q1, ?_⟩
        rw [happ, List.getElem?_append_left (List.getElem?_eq_some_iff.mp q2).1]
        exact q2
-- a text that can't be read, a row that is full: both sides refuse, the tape is empty
set_option maxRecDepth 20000 in
theorem St.badText {j : Nat} {ext : HL} {G : VRT} {K : KT} {tn : Nat} {T : Nat → Nat} {u : Nat} {US : Nat → KT} {lg : Nat → Nat} {VI V' : VIT} (h : St j ext G K tn T u US lg VI) (k : Nat) (hk : k < 6) (hF : ∀ a i, ¬ spL a i → ¬ (a = 73 ∧ i = k) → ¬ (a = 75 ∧ i = k + 1) → V' a i = VI a i) (h76 : V' 76 = VI 76) (h3 : V' 3 14 = VI 3 14) (e73 : V' 73 k = VI 73 k + 1) (e75 : V' 75 (k + 1) = VI 75 (k + 1) + 1) (s1 : V' 0 17 = V' 74 0) (f1 : V' 0 14 = V' 74 14) (t1 : V' 0 13 = nI 0) (t2 : V' 74 13 = nI 0) : St (j + 1) ext G K 0 T u US lg V' := by
  obtain ⟨h1, h2, h3', h4, h5, h6, h7, h8, h9, h10, h11, h12⟩ := h
  have hs : ∀ a i, (a = 0 ∧ i ≠ 13 ∧ i ≠ 14 ∧ i ≠ 17) ∨ (a = 3 ∧ i ≠ 14) ∨ (3 < a ∧ a < 37) ∨ (42 < a ∧ a < 73) ∨ (a = 74 ∧ 21 < i) ∨ (a = 74 ∧ i = 6) ∨ (76 < a ∧ a < 83) ∨ 85 < a → V' a i = VI a i := fun a i q => hF a i (by unfold spL; omega) (by omega) (by omega)
  have hsr : ∀ a, (3 < a ∧ a < 37) ∨ (42 < a ∧ a < 73) ∨ (76 < a ∧ a < 83) ∨ 85 < a → V' a = VI a := fun a q => funext (fun k => hs a k (by omega))
  have h3r : V' 3 = VI 3 := funext (fun i => by
    by_cases c : i = 14
    · rw [c]; exact h3
    · exact hs 3 i (by omega))
  refine ⟨h1, h2.same (fun a q1 q2 => ?_), by rw [h76]; exact h3', ?_, ⟨by omega, t1, t2, fun k hk => absurd hk (by omega)⟩, h6.same (hs 45 2 (by omega)) (hs 74 32 (by omega)) (hsr 46 (by omega)) (hsr 88 (by omega)), h7.same (hs 70 3 (by omega)) (hs 74 50 (by omega)) (hsr 71 (by omega)) (hsr 99 (by omega)), (h8.same (hs 63 6 (by omega)) (hsr 65 (by omega))).next, h9.same (hs 0 12 (by omega)) (fun a _ _ => hsr a (by omega)) (hsr 77 (by omega)) (hsr 78 (by omega)) (fun a _ => hsr a (by omega)), h10.sameV h1.l6 (fun a _ => hsr a (by omega)), (hsr 80 (by omega)).trans h11, h12⟩
  · by_cases c : a = 3
    · rw [c]; exact h3r
    · exact hsr a (by omega)
  · obtain ⟨m1, m2, m3, m4, m5⟩ := h4
    refine ⟨s1, f1, ?_, ?_, fun i hi => ?_⟩
    · rw [hs 0 15 (by omega), hs 74 6 (by omega)]; exact m3
    · rw [hs 0 16 (by omega), hs 74 42 (by omega)]; exact m4
    · by_cases c : i = k
      · rw [c, e73, e75, m5 k hk]
      · rw [hF 73 i (by unfold spL; omega) (by omega) (by omega), hF 75 (i + 1) (by unfold spL; omega) (by omega) (by omega)]; exact m5 i hi
section JLaw
variable {j : Nat} {lay : HL} {VI : VIT} {VL : VLT} {VR : VRT}
set_option maxRecDepth 20000 in
theorem j_law (h : Inv j lay VI VL VR) : Pr 100 mi118 mi213 [] lay VI VL VR (Inv (j + 1)) := by
  obtain ⟨ext, G, K, tn, T, u, US, lg, rfl, rfl, hS⟩ := h
  have hW := hS.1
  have hX := hS.2.1
  have hM := hS.2.2.1
  obtain ⟨htn, a13, b13, hT⟩ := hS.2.2.2.2.1
  have h80 := hS.2.2.2.2.2.2.2.2.2.2.1
  have h6 := hW.l6
  have hn100 : 100 ≤ (LY ++ ext).length := by rw [List.length_append, LY_len]; omega
  by_cases c6 : K 96 = 6
  · refine ExS.budget (bc := 0) (bs := 0) (x_law_full (d := 65) a13 (by rw [hX.ln, c6]) ⟨_, ext, rfl, rfl, ?_⟩) (by omega) (by omega)
    refine m_law_full (d := 61) (K := K) ?_ c6 ⟨rfl, St.inv (hS.badText 4 (by omega) (fun a i q1 q2 q3 => ?_) ?_ ?_ ?_ ?_ rfl ?_ rfl ?_)⟩
    · rw [up_ne (by omega), up_ne (by omega), up_ne (by omega)]; exact hM
    · unfold spL at q1
      rw [up_ne2 q3, up_ne2 (by omega), up_ne2 (by omega), up_ne2 q2, up_ne2 (by omega), up_ne2 (by omega)]
    · rw [up_ne (by omega), up_ne (by omega), up_ne (by omega), up_ne (by omega), up_ne (by omega), up_ne (by omega)]
    · rw [up_ne (by omega), up_ne (by omega), up_ne (by omega), up_ne (by omega), up_ne (by omega), up_ne (by omega)]
    · rfl
    · rfl
    · have := hS.2.2.2.1.2.1
      exact this
    · rfl
  · obtain ⟨tc, tv, hK⟩ := tok_all htn (fun k hk => (hT k hk).1)
    have hlen : (Tks T tn).length ≤ tn - 0 := tks_len tn 0
    have hX72 : ∀ k, k < tn → T k < 256 ∧ VI 72 k = nI (T k) := fun k hk => ⟨(hT k hk).1, (hT k hk).2.1⟩
    refine x_lawC (d := 65) rfl a13 htn hX72 hK hX.ln (by omega) (fun V1 VL1 L cl cd e1 F1 g1 g2 g3 g4 g5 g6 g7 g8 g9 => ⟨_, _, rfl, rfl, ?_⟩) (fun e0 V1 F1 g1 g2 g3 g4 g5 g6 => ⟨_, ext, rfl, rfl, ?_⟩)
    · refine m_law (d := 61) (tn := tn) (T := T) (tc := tc) (tv := tv) (K := K) ?_ ?_ htn (fun k hk => ⟨(hT k hk).1, ?_⟩) hK ?_ (by omega) (fun _ V2 F2 k1 k2 k3 k4 k5 => ⟨rfl, St.inv (hS.law (N := (Tks T tn).length) (T := T) (tc := tc) (tv := tv) (cd := cd) (cl := cl) rfl (by omega) rfl (fun a k ha hs => (F2 a k hs).trans (F1 a k ha hs)) k5 ?_ ?_ k4 ?_ k3 ?_ k2 (by omega) (fun i hi => hK.2.1 i hi) e1 g5 ?_ (fun k hk => ?_) ?_)⟩) (fun c => absurd c (by rw [e1]; show ¬ 1 = 0; omega))
      · rw [show V1 80 = VI 80 from funext (fun k => F1 80 k (by omega) (by unfold spL; omega))]; exact h80
      · rw [g9 74 (by omega)]; exact b13
      · rw [F1 81 k (by omega) (by unfold spL; omega)]; exact (hT k hk).2.2
      · rw [g9 76 (by omega)]; exact hM
      · rw [k1 3 (by omega)]; exact g4
      · rw [k1 0 (by omega)]; exact g3
      · rw [k1 0 (by omega)]; exact g2
      · rw [k1 0 (by omega)]; exact g1
      · rw [F2 _ 2 (by unfold spL; omega)]; exact g6
      · rw [F2 _ k (by unfold spL; omega)]; exact g7 k hk
      · rw [show V2 ((LY ++ ext).length + 1) = V1 ((LY ++ ext).length + 1) from funext (fun k => F2 _ k (by unfold spL; omega))]; exact g8
    · refine m_law (d := 61) (tn := tn) (T := T) (tc := tc) (tv := tv) (K := K) ?_ ?_ htn (fun k hk => ⟨(hT k hk).1, ?_⟩) hK ?_ (by omega) (fun c => absurd c (by omega)) (fun _ V2 F2 k1 k2 k3 k4 k5 => ⟨rfl, St.inv (hS.badText 5 (by omega) (fun a i q1 q2 q3 => (F2 a i q1 q3).trans (F1 a i q1 q2)) ?_ ?_ ?_ ?_ ?_ ?_ ?_ k2)⟩)
      · rw [show V1 80 = VI 80 from funext (fun k => F1 80 k (by unfold spL; omega) (by omega))]; exact h80
      · rw [g6 74 (by omega)]; exact b13
      · rw [F1 81 k (by unfold spL; omega) (by omega)]; exact (hT k hk).2.2
      · rw [g6 76 (by omega)]; exact hM
      · rw [k1 76 (by omega)]; exact g6 76 (by omega)
      · rw [k1 3 (by omega)]; exact g5
      · rw [F2 73 5 (by unfold spL; omega) (by omega)]; exact g4
      · rw [k5, F1 75 6 (by unfold spL; omega) (by omega)]
      · rw [k1 0 (by omega), g3, k4]
      · rw [k1 0 (by omega), g2, k3]
      · rw [k1 0 (by omega)]; exact g1
end JLaw
