/-! ===== image, back: joined ===== -/
set_option maxRecDepth 20000 in
theorem Img.off {i a c : Nat} {lay : HL} {VI VI' : VIT} {G : VRT} (h : Img i lay VI (vr G)) (hi : i < 2) (ha : 25 + 11 * i ≠ a) (ha2 : a < 100) (e1 : ∀ b, 15 + 11 * i ≤ b → b ≤ 24 + 11 * i → VI' b = VI b) (e2 : ∀ x, x < 5705 → VI' 77 (5705 * i + x) = VI 77 (5705 * i + x)) (e3 : ∀ b, 100 ≤ b → VI' b = VI b) : Img i lay VI' (vr (cpG G a c 6)) := by
  obtain ⟨KI, h1, h2, h3, h4⟩ := h
  refine ⟨KI, h1, h2.same (fun b q1 q2 => e1 b (by omega) (by omega)), ?_, h4.off h1 ha ha2 e3⟩
  refine h3.set (fun x hx _ => Or.inl ⟨e2 x hx, rfl⟩) (Or.inl ⟨e2 97 (by omega), rfl⟩)
set_option maxRecDepth 20000 in
theorem St.image {j : Nat} {ext : HL} {G : VRT} {K : KT} {tn : Nat} {T : Nat → Nat} {u : Nat} {US : Nat → KT} {lg : Nat → Nat} {VI V : VIT} (h : St j ext G K tn T u US lg VI) {k hm : Nat} (hk : k < 2) (hc : CpW (15 + 11 * k) 3 VI V) (q1 : hm < 4) (q3 : ∀ i, i < 2 → VI 78 i = nI (hm / 2 ^ i % 2)) (q4 : ∀ i, i < 2 → hm / 2 ^ i % 2 = 1 → Img i (LY ++ ext) VI (vr G)) : St (j + 1) ext (cpG G (25 + 11 * k) 13 6) K tn T u US lg (up (up (uw (up (up V 0 12 (nI (hm ||| 2 ^ k))) 0 17 0) 77 (cp (V 77) (5705 * k) (V 76) 5705)) 78 k 1) 74 0 0) := by
  obtain ⟨h1, h2, h3, h4, h5, h6, h7, h8, h9, h10, h11⟩ := h
  have ha : VRT0[25 + 11 * k]? = some none := by rcases (show k = 0 ∨ k = 1 by omega) with rfl | rfl <;> rfl
  have hf := hc.2.2.2.2.2
  have fr : ∀ a, (a < 15 + 11 * k ∨ 24 + 11 * k < a) → a ≠ 0 → a ≠ 77 → a ≠ 78 → a ≠ 74 → (up (up (uw (up (up V 0 12 (nI (hm ||| 2 ^ k))) 0 17 0) 77 (cp (V 77) (5705 * k) (V 76) 5705)) 78 k 1) 74 0 0) a = VI a := by
    intro a p1 p2 p3 p4 p5
    rw [up_ne p5, up_ne p4, uw_ne p3, up_ne p2, up_ne p2, hf a (by omega)]
  have f0 : ∀ i, i ≠ 12 → i ≠ 17 → (up (up (uw (up (up V 0 12 (nI (hm ||| 2 ^ k))) 0 17 0) 77 (cp (V 77) (5705 * k) (V 76) 5705)) 78 k 1) 74 0 0) 0 i = VI 0 i := by
    intro i p1 p2
    rw [up_ne (by omega), up_ne (by omega), uw_ne (by omega), up_at' p2, up_at' p1, hf 0 (by omega)]
  have f74 : ∀ i, i ≠ 0 → (up (up (uw (up (up V 0 12 (nI (hm ||| 2 ^ k))) 0 17 0) 77 (cp (V 77) (5705 * k) (V 76) 5705)) 78 k 1) 74 0 0) 74 i = VI 74 i := by
    intro i p1
    rw [up_at' p1, up_ne (by omega), uw_ne (by omega), up_ne (by omega), up_ne (by omega), hf 74 (by omega)]
  have fh : ∀ b, 100 ≤ b → (up (up (uw (up (up V 0 12 (nI (hm ||| 2 ^ k))) 0 17 0) 77 (cp (V 77) (5705 * k) (V 76) 5705)) 78 k 1) 74 0 0) b = VI b := fun b hb => fr b (by omega) (by omega) (by omega) (by omega) (by omega)
  have f77 : ∀ x, (up (up (uw (up (up V 0 12 (nI (hm ||| 2 ^ k))) 0 17 0) 77 (cp (V 77) (5705 * k) (V 76) 5705)) 78 k 1) 74 0 0) 77 x = cp (VI 77) (5705 * k) (VI 76) 5705 x := by
    intro x
    rw [up_ne (by omega), up_ne (by omega), uw_same, hf 77 (by omega), hf 76 (by omega)]
  refine ⟨h1, h2.same (fun a _ _ => fr a (by omega) (by omega) (by omega) (by omega) (by omega)), ?_, ?_, h5.same (f0 13 (by omega) (by omega)) (f74 13 (by omega)) (fr 72 (by omega) (by omega) (by omega) (by omega) (by omega)) (fr 81 (by omega) (by omega) (by omega) (by omega) (by omega)), h6.same (by rw [fr 45 (by omega) (by omega) (by omega) (by omega) (by omega)]) (f74 32 (by omega)) (fr 46 (by omega) (by omega) (by omega) (by omega) (by omega)) (fr 88 (by omega) (by omega) (by omega) (by omega) (by omega)), h7.same (by rw [fr 70 (by omega) (by omega) (by omega) (by omega) (by omega)]) (f74 50 (by omega)) (fr 71 (by omega) (by omega) (by omega) (by omega) (by omega)) (fr 99 (by omega) (by omega) (by omega) (by omega) (by omega)), (h8.same (by rw [fr 63 (by omega) (by omega) (by omega) (by omega) (by omega)]) (fr 65 (by omega) (by omega) (by omega) (by omega) (by omega))).next, ⟨hm ||| 2 ^ k, (hm_or hm q1 k hk 0 (by omega)).2, ?_, fun i hi => ?_, fun i hi hb => ?_⟩, h10.off h1 (by omega) (by omega) fh, (fr 80 (by omega) (by omega) (by omega) (by omega) (by omega)).trans h11.1, h11.2.cp ha rfl (by omega)⟩
  · rw [fr 76 (by omega) (by omega) (by omega) (by omega) (by omega)]; exact h3
  · obtain ⟨m1, m2, m3, m4, m5⟩ := h4
    refine ⟨rfl, ?_, ?_, ?_, fun i hi => ?_⟩
    · rw [f0 14 (by omega) (by omega), f74 14 (by omega)]; exact m2
    · rw [f0 15 (by omega) (by omega), f74 6 (by omega)]; exact m3
    · rw [f0 16 (by omega) (by omega), f74 42 (by omega)]; exact m4
    · rw [fr 73 (by omega) (by omega) (by omega) (by omega) (by omega), fr 75 (by omega) (by omega) (by omega) (by omega) (by omega)]; exact m5 i hi
  · rw [up_ne (by omega), up_ne (by omega), uw_ne (by omega), up_at' (by omega), up_at]
  · rw [up_ne (by omega), (hm_or hm q1 k hk i hi).1]
    by_cases c : i = k
    · subst c; rw [up_at, if_pos rfl]; rfl
    · rw [up_at' c, if_neg c, uw_ne (by omega), up_ne (by omega), up_ne (by omega), hf 78 (by omega)]; exact q3 i hi
  · by_cases c : i = k
    · subst c
      refine ⟨K, h1, ?_, ?_, h10.cpw h1 ha rfl rfl (by omega) fh⟩
      · refine (h2.cpw h1 hc).same (fun a p1 p2 => ?_)
        rw [up_ne (by omega), up_ne (by omega), uw_ne (by omega), up_ne (by omega), up_ne (by omega)]
      · refine h3.set (fun x hx _ => Or.inl ⟨?_, rfl⟩) (Or.inl ⟨?_, rfl⟩)
        · show _ = VI 76 x
          rw [f77]
          unfold cp
          rw [if_pos (by omega), Nat.add_sub_cancel_left]
        · show _ = VI 76 97
          rw [f77]
          unfold cp
          rw [if_pos (by omega), Nat.add_sub_cancel_left]
    · rw [(hm_or hm q1 k hk i hi).1, if_neg c] at hb
      refine (q4 i hi hb).off hi (by omega) (by omega) (fun b p1 p2 => fr b (by omega) (by omega) (by omega) (by omega) (by omega)) (fun x hx => ?_) fh
      rw [f77]
      unfold cp
      rw [if_neg (by omega)]
set_option maxRecDepth 20000 in
theorem St.back {j : Nat} {ext : HL} {G : VRT} {K KI : KT} {tn : Nat} {T : Nat → Nat} {u : Nat} {US : Nat → KT} {lg : Nat → Nat} {VI V : VIT} (h : St j ext G K tn T u US lg VI) {k : Nat} (hk : k < 2) (hc : CpW 3 (15 + 11 * k) VI V) (i1 : WF KI) (i2 : RW (15 + 11 * k) KI VI) (i3 : RK (fun i => VI 77 (5705 * k + i)) KI) (i4 : Laws KI (25 + 11 * k) (LY ++ ext) VI (vr G)) : St (j + 1) ext (cpG G 13 (25 + 11 * k) 6) KI tn T 0 (fun _ => KI) (fun _ => 0) (up (up (uw (up (up V 45 2 0) 0 17 0) 76 (cp (V 76) 0 (fun i => V 77 (5705 * k + i)) 5705)) 74 32 0) 74 0 0) := by
  obtain ⟨h1, h2, h3, h4, h5, h6, h7, h8, ⟨hm, p1, p2, p3, p4⟩, h10, h11⟩ := h
  have ha : VRT0[25 + 11 * k]? = some none := by rcases (show k = 0 ∨ k = 1 by omega) with rfl | rfl <;> rfl
  have hf := hc.2.2.2.2.2
  have fr : ∀ a, 12 < a → a ≠ 45 → a ≠ 76 → a ≠ 74 → (up (up (uw (up (up V 45 2 0) 0 17 0) 76 (cp (V 76) 0 (fun i => V 77 (5705 * k + i)) 5705)) 74 32 0) 74 0 0) a = VI a := by
    intro a q1 q2 q3 q4
    rw [up_ne q4, up_ne q4, uw_ne q3, up_ne (by omega), up_ne q2, hf a (by omega)]
  have f0 : ∀ i, i ≠ 17 → (up (up (uw (up (up V 45 2 0) 0 17 0) 76 (cp (V 76) 0 (fun i => V 77 (5705 * k + i)) 5705)) 74 32 0) 74 0 0) 0 i = VI 0 i := by
    intro i q1
    rw [up_ne (by omega), up_ne (by omega), uw_ne (by omega), up_at' q1, up_ne (by omega), hf 0 (by omega)]
  have f74 : ∀ i, i ≠ 0 → i ≠ 32 → (up (up (uw (up (up V 45 2 0) 0 17 0) 76 (cp (V 76) 0 (fun i => V 77 (5705 * k + i)) 5705)) 74 32 0) 74 0 0) 74 i = VI 74 i := by
    intro i q1 q2
    rw [up_at' q1, up_at' q2, uw_ne (by omega), up_ne (by omega), up_ne (by omega), hf 74 (by omega)]
  have fh : ∀ b, 100 ≤ b → (up (up (uw (up (up V 45 2 0) 0 17 0) 76 (cp (V 76) 0 (fun i => V 77 (5705 * k + i)) 5705)) 74 32 0) 74 0 0) b = VI b := fun b hb => fr b (by omega) (by omega) (by omega) (by omega)
  have h77 : V 77 = VI 77 := hf 77 (by omega)
  refine ⟨i1, ?_, ?_, ?_, h5.same (f0 13 (by omega)) (f74 13 (by omega) (by omega)) (fr 72 (by omega) (by omega) (by omega) (by omega)) (fr 81 (by omega) (by omega) (by omega) (by omega)), Und.none ?_ rfl, h7.same (by rw [fr 70 (by omega) (by omega) (by omega) (by omega)]) (f74 50 (by omega) (by omega)) (fr 71 (by omega) (by omega) (by omega) (by omega)) (fr 99 (by omega) (by omega) (by omega) (by omega)), (h8.same (by rw [fr 63 (by omega) (by omega) (by omega) (by omega)]) (fr 65 (by omega) (by omega) (by omega) (by omega))).next, ⟨hm, p1, (f0 12 (by omega)).trans p2, fun i hi => ?_, fun i hi hb => ?_⟩, i4.cpw i1 rfl ha rfl (by omega) fh, (fr 80 (by omega) (by omega) (by omega) (by omega)).trans h11.1, h11.2.cp rfl ha (by omega)⟩
  · refine (i2.cpw i1 hc).same (fun a q1 q2 => ?_)
    rw [up_ne (by omega), up_ne (by omega), uw_ne (by omega), up_ne (by omega), up_ne (by omega)]
  · rw [up_ne (by omega), up_ne (by omega), uw_same, h77]
    refine i3.set (fun x hx _ => Or.inl ⟨?_, rfl⟩) (Or.inl ⟨?_, rfl⟩)
    · unfold cp
      rw [if_pos (by omega), Nat.sub_zero]
    · unfold cp
      rw [if_pos (by omega), Nat.sub_zero]
  · obtain ⟨m1, m2, m3, m4, m5⟩ := h4
    refine ⟨rfl, ?_, ?_, ?_, fun i hi => ?_⟩
    · rw [f0 14 (by omega), f74 14 (by omega) (by omega)]; exact m2
    · rw [f0 15 (by omega), f74 6 (by omega) (by omega)]; exact m3
    · rw [f0 16 (by omega), f74 42 (by omega) (by omega)]; exact m4
    · rw [fr 73 (by omega) (by omega) (by omega) (by omega), fr 75 (by omega) (by omega) (by omega) (by omega)]; exact m5 i hi
  · rw [up_ne (by omega), up_ne (by omega), uw_ne (by omega), up_ne (by omega), up_at]
  · rw [fr 78 (by omega) (by omega) (by omega) (by omega)]; exact p3 i hi
  · exact (p4 i hi hb).off hi (by omega) (by omega) (fun b q1 q2 => fr b (by omega) (by omega) (by omega) (by omega)) (fun x hx => by rw [fr 77 (by omega) (by omega) (by omega) (by omega)]) fh
section Join8
variable {j : Nat} {lay : HL} {VI : VIT} {VL : VLT} {VR : VRT}
set_option maxRecDepth 20000 in
theorem j_image {k : Int32} (h : Inv j lay VI VL VR) : Pr 100 mi141 mi162 [.int k] lay VI VL VR (Inv (j + 1)) := by
  obtain ⟨ext, G, K, tn, T, u, US, lg, rfl, rfl, hS⟩ := h
  by_cases hb : k < 0 ∨ 2 ≤ k
  · exact Pr_ref hS 0 (by omega) (-1) (fun P z => x_image_bad hb z) (fun P z => m_image_bad hb z)
  · simp only [not_or] at hb
    obtain ⟨hm, q1, q2, q3, q4⟩ := hS.2.2.2.2.2.2.2.2.1
    have hR := hS.2.2.2.2.2.2.2.2.2.2.2
    rcases in2 hb.1 hb.2 with rfl | rfl
    · exact ExS.budget (bc := 0) (bs := 0) (x_image0 hR q2 ⟨_, ext, rfl, rfl, m_image_ok (k := 0) (by omega) ⟨rfl, (hS.image (k := 0) (by omega) cw_15_3_ok q1 q3 q4).inv⟩⟩) (by omega) (by omega)
    · exact ExS.budget (bc := 0) (bs := 0) (x_image1 hR q2 ⟨_, ext, rfl, rfl, m_image_ok (k := 1) (by omega) ⟨rfl, (hS.image (k := 1) (by omega) cw_26_3_ok q1 q3 q4).inv⟩⟩) (by omega) (by omega)
set_option maxRecDepth 20000 in
theorem j_back {k : Int32} (h : Inv j lay VI VL VR) : Pr 100 mi142 mi163 [.int k] lay VI VL VR (Inv (j + 1)) := by
  obtain ⟨ext, G, K, tn, T, u, US, lg, rfl, rfl, hS⟩ := h
  by_cases hb : k < 0 ∨ 2 ≤ k
  · exact Pr_ref hS 0 (by omega) (-1) (fun P z => x_back_bad hb z) (fun P z => m_back_bad hb z)
  · simp only [not_or] at hb
    obtain ⟨hm, q1, q2, q3, q4⟩ := hS.2.2.2.2.2.2.2.2.1
    have hR := hS.2.2.2.2.2.2.2.2.2.2.2
    rcases in2 hb.1 hb.2 with rfl | rfl
    · rcases (show hm / 2 ^ 0 % 2 = 0 ∨ hm / 2 ^ 0 % 2 = 1 by omega) with z0 | z1
      · exact Pr_ref hS 1 (by omega) (-2) (fun P z => x_back0_no q2 q1 z0 z) (fun P z => m_back_no (k := 0) (by omega) ((q3 0 (by omega)).trans (by rw [z0])) z)
      · obtain ⟨KI, i1, i2, i3, i4⟩ := q4 0 (by omega) z1
        exact ExS.budget (bc := 0) (bs := 0) (x_back0 hR q2 q1 z1 ⟨_, ext, rfl, rfl, m_back_ok (k := 0) (by omega) ((q3 0 (by omega)).trans (by rw [z1])) ⟨rfl, (hS.back (k := 0) (by omega) cw_3_15_ok i1 i2 i3 i4).inv⟩⟩) (by omega) (by omega)
    · rcases (show hm / 2 ^ 1 % 2 = 0 ∨ hm / 2 ^ 1 % 2 = 1 by omega) with z0 | z1
      · exact Pr_ref hS 1 (by omega) (-2) (fun P z => x_back1_no q2 q1 z0 z) (fun P z => m_back_no (k := 1) (by omega) ((q3 1 (by omega)).trans (by rw [z0])) z)
      · obtain ⟨KI, i1, i2, i3, i4⟩ := q4 1 (by omega) z1
        exact ExS.budget (bc := 0) (bs := 0) (x_back1 hR q2 q1 z1 ⟨_, ext, rfl, rfl, m_back_ok (k := 1) (by omega) ((q3 1 (by omega)).trans (by rw [z1])) ⟨rfl, (hS.back (k := 1) (by omega) cw_3_26_ok i1 i2 i3 i4).inv⟩⟩) (by omega) (by omega)
end Join8
