/-! ===== develop, bury, pass joined; undo ===== -/
section Join6
variable {j : Nat} {lay : HL} {VI : VIT} {VL : VLT} {VR : VRT}
set_option maxRecDepth 20000 in
theorem j_develop {r : Int32} (h : Inv j lay VI VL VR) : Pr 100 mi125 mi245 [.int r] lay VI VL VR (Inv (j + 1)) := by
  obtain ⟨ext, G, K, tn, T, u, US, lg, rfl, rfl, hS⟩ := h
  have hW := hS.1
  have hX := hS.2.1
  have hM := hS.2.2.1
  have hU := hS.2.2.2.2.2.1
  have h6 := hW.n
  have h8 : K 94 ≤ 8 := hW.2.1
  have h95 : K 95 ≤ 8 := hW.2.2.1
  obtain ⟨s, v, hn⟩ := nxt hU.1
  rcases has_cases (n := K 94) (by omega) r with h | ⟨r, hr, rfl⟩
  · exact Pr_ref hS 1 (by omega) (-2) (fun P z => x_developC_ref 1 rfl (by omega) (fun P' q => s_develop_out hX h q) z) (fun P z => m_developC_ref 1 rfl (by omega) (fun P' q => m_develop_out hM hW h q) z)
  · by_cases hb : agK K r = none ∨ K (30 + r) = 1
    · exact Pr_ref hS 2 (by omega) (-3) (fun P z => x_developC_ref 2 rfl (by omega) (fun P' q => s_develop_no hX hW hr hb q) z) (fun P z => m_developC_ref 2 rfl (by omega) (fun P' q => m_develop_no hM hW hr hb q) z)
    · simp only [not_or] at hb
      obtain ⟨hb1, hb2⟩ := hb
      obtain ⟨c, hc⟩ := Option.ne_none_iff_exists'.mp hb1
      have hz : K (30 + r) = 0 := by have := (hW.roll hr).1; omega
      have hal : z100 c < 2147483648 := by have := agK_lt100 hW hr (z100 c) (by rw [hc]; rfl); omega
      have ham := hal
      have hg4 : (r * 4 + 1) % 4 = 1 := by omega
      have hgl : r * 4 + 1 < 65536 := by omega
      have hans : nI (z100 c) = nI (z100 c) := rfl
      have hW2 : WF (ku K (30 + r) 1) := hW.bits (fun i _ hi => ku_ne (by omega)) (fun p hp => by rw [ku_ne (by omega)]; exact hW.life hp) (fun q hq => by unfold ku; split <;> first | omega | exact (hW.roll hq).1)
      have hun : Undoes (K 93) (K 94) (r * 4 + 1) (ku K (30 + r) 1) K := by
        have e : (r * 4 + 1) / 4 = r := by omega
        refine Or.inr (Or.inl ⟨hg4, by rw [e]; exact hr, by rw [e, ku_same], by rw [e]; exact hz, fun k hk h2 => (ku_ne (by rw [e] at h2; exact h2)).symm⟩)
      refine ExS.budget (bc := 0) (bs := 0) (x_developC_ok (a := z100 c) (Q := fun VI' => KX VI VI' s v (r * 4 + 1) ∧ RW 3 (ku K (30 + r) 1) VI') hal (fun P' q => s_develop_ok hX hW hr hc hz hU.2.1 hn (fun VI' z1 z2 => q VI' ⟨z1, z2⟩)) (fun VI1 hq => ⟨_, ext, rfl, rfl, ?_⟩)) (by omega) (by omega)
      have hM1 : RK ((up VI1 0 17 0) 76) K := by
        rw [up_ne (by omega), hq.1.row 76 (by omega) (by omega) (by omega)]; exact hM
      have hU1 : (up VI1 0 17 0) 74 32 = nI u := by
        rw [up_ne (by omega), hq.1.row 74 (by omega) (by omega) (by omega)]; exact hU.2.2.1
      refine m_developC_ok (a := z100 c) (Q := fun VI' => KM (up VI1 0 17 0) VI' s v ((r * 4 + 1) % 4) ∧ RK (VI' 76) (ku K (30 + r) 1)) ham (fun P' q => m_develop_ok hM1 hW hr hc hz hU1 hn (fun VI' z1 z2 => q VI' ⟨by rw [hg4]; exact z1, z2⟩)) (fun VI2 hq2 => ⟨by rw [hans], St.inv (hS.deed hn hgl hq.1 hq.2 hq2.1 hq2.2 hW2 hun (fun i hi => ku_ne (by omega)))⟩)
set_option maxRecDepth 20000 in
theorem j_bury {r : Int32} (h : Inv j lay VI VL VR) : Pr 100 mi126 mi246 [.int r] lay VI VL VR (Inv (j + 1)) := by
  obtain ⟨ext, G, K, tn, T, u, US, lg, rfl, rfl, hS⟩ := h
  have hW := hS.1
  have hX := hS.2.1
  have hM := hS.2.2.1
  have hU := hS.2.2.2.2.2.1
  have h6 := hW.n
  have h8 : K 94 ≤ 8 := hW.2.1
  have h95 : K 95 ≤ 8 := hW.2.2.1
  obtain ⟨s, v, hn⟩ := nxt hU.1
  rcases has_cases (n := K 93) (by omega) r with h | ⟨r, hr, rfl⟩
  · exact Pr_ref hS 1 (by omega) (-2) (fun P z => x_buryC_ref 1 rfl (by omega) (fun P' q => s_bury_out hX h q) z) (fun P z => m_buryC_ref 1 rfl (by omega) (fun P' q => m_bury_out hM hW h q) z)
  · have hlf := hW.life hr
    by_cases hb : K (24 + r) = 0
    · exact Pr_ref hS 2 (by omega) (-3) (fun P z => x_buryC_ref 2 rfl (by omega) (fun P' q => s_bury_no hX hW hr hb q) z) (fun P z => m_buryC_ref 2 rfl (by omega) (fun P' q => m_bury_no hM hW hr hb q) z)
    · have hz : K (24 + r) = 1 := by omega
      have hW2 : WF (ku K (24 + r) 0) := hW.bits (fun i _ hi => ku_ne (by omega)) (fun p hp => by unfold ku; split <;> first | omega | exact hW.life hp) (fun q hq => by rw [ku_ne (by omega)]; exact (hW.roll hq).1)
      have hpe : popN (lmK (ku K (24 + r) 0)) 8 = popN (lmK (ku K (24 + r) 0)) 6 := by
        have h93 : ku K (24 + r) 0 93 = K 93 := ku_ne (by omega)
        rw [pop_msk (fun i hi => hW2.life hi), pop_msk (fun i hi => hW2.life hi), h93, show min 8 (K 93) = min 6 (K 93) by omega]
      have hpl : ∀ m k, popN m k ≤ k := by
        intro m k
        induction k with
        | zero => exact Nat.le_refl _
        | succ k ih => simp only [popN]; omega
      have hal : popN (lmK (ku K (24 + r) 0)) 8 < 2147483648 := by have := hpl (lmK (ku K (24 + r) 0)) 8; omega
      have ham : popN (lmK (ku K (24 + r) 0)) 6 < 2147483648 := by have := hpl (lmK (ku K (24 + r) 0)) 6; omega
      have hg4 : (r * 4 + 2) % 4 = 2 := by omega
      have hgl : r * 4 + 2 < 65536 := by omega
      have hans : nI (popN (lmK (ku K (24 + r) 0)) 6) = nI (popN (lmK (ku K (24 + r) 0)) 8) := by rw [hpe]
      have hun : Undoes (K 93) (K 94) (r * 4 + 2) (ku K (24 + r) 0) K := by
        have e : (r * 4 + 2) / 4 = r := by omega
        refine Or.inr (Or.inr (Or.inl ⟨hg4, by rw [e]; exact hr, by rw [e, ku_same], by rw [e]; exact hz, fun k hk h2 => (ku_ne (by rw [e] at h2; exact h2)).symm⟩))
      refine ExS.budget (bc := 0) (bs := 0) (x_buryC_ok (a := popN (lmK (ku K (24 + r) 0)) 8) (Q := fun VI' => KX VI VI' s v (r * 4 + 2) ∧ RW 3 (ku K (24 + r) 0) VI') hal (fun P' q => s_bury_ok hX hW hr hz hU.2.1 hn (fun VI' z1 z2 => q VI' ⟨z1, z2⟩)) (fun VI1 hq => ⟨_, ext, rfl, rfl, ?_⟩)) (by omega) (by omega)
      have hM1 : RK ((up VI1 0 17 0) 76) K := by
        rw [up_ne (by omega), hq.1.row 76 (by omega) (by omega) (by omega)]; exact hM
      have hU1 : (up VI1 0 17 0) 74 32 = nI u := by
        rw [up_ne (by omega), hq.1.row 74 (by omega) (by omega) (by omega)]; exact hU.2.2.1
      refine m_buryC_ok (a := popN (lmK (ku K (24 + r) 0)) 6) (Q := fun VI' => KM (up VI1 0 17 0) VI' s v ((r * 4 + 2) % 4) ∧ RK (VI' 76) (ku K (24 + r) 0)) ham (fun P' q => m_bury_ok hM1 hW hr hz hU1 hn (fun VI' z1 z2 => q VI' ⟨by rw [hg4]; exact z1, z2⟩)) (fun VI2 hq2 => ⟨by rw [hans], St.inv (hS.deed hn hgl hq.1 hq.2 hq2.1 hq2.2 hW2 hun (fun i hi => ku_ne (by omega)))⟩)
set_option maxRecDepth 20000 in
theorem j_pass (h : Inv j lay VI VL VR) : Pr 100 mi127 mi247 [] lay VI VL VR (Inv (j + 1)) := by
  obtain ⟨ext, G, K, tn, T, u, US, lg, rfl, rfl, hS⟩ := h
  have hW := hS.1
  have hX := hS.2.1
  have hM := hS.2.2.1
  have hU := hS.2.2.2.2.2.1
  have h6 := hW.n
  have h8 : K 94 ≤ 8 := hW.2.1
  have h95 : K 95 ≤ 8 := hW.2.2.1
  obtain ⟨s, v, hn⟩ := nxt hU.1
  have h38 : K 38 ≤ 999 := hW.2.2.2.2.2.1
  by_cases hb : K 38 = 999
  · exact Pr_ref hS 2 (by omega) (-3) (fun P z => x_passC_ref 2 rfl (by omega) (fun P' q => s_pass_no hX hb q) z) (fun P z => m_passC_ref 2 rfl (by omega) (fun P' q => m_pass_no hM hb q) z)
  · · have hz : K 38 < 999 := by omega
      have hal : K 38 + 1 < 2147483648 := by omega
      have ham := hal
      have hg4 : (0 * 4 + 3) % 4 = 3 := rfl
      have hgl : 0 * 4 + 3 < 65536 := by decide
      have hans : nI (K 38 + 1) = nI (K 38 + 1) := rfl
      have hW2 : WF (ku K 38 (K 38 + 1)) := hW.keep (fun i _ h2 _ _ => ku_ne h2) (by rw [ku_same]; omega) (by rw [ku_ne (by omega)]; exact hW.2.2.2.2.2.2.1) (by rw [ku_ne (by omega)]; exact hW.2.2.2.2.2.2.2.1)
      have hun : Undoes (K 93) (K 94) (0 * 4 + 3) (ku K 38 (K 38 + 1)) K := Or.inr (Or.inr (Or.inr ⟨rfl, ku_same, fun k hk => (ku_ne (by omega)).symm⟩))
      refine ExS.budget (bc := 0) (bs := 0) (x_passC_ok (a := K 38 + 1) (Q := fun VI' => KX VI VI' s v (0 * 4 + 3) ∧ RW 3 (ku K 38 (K 38 + 1)) VI') hal (fun P' q => s_pass_ok hX hW hz hU.2.1 hn (fun VI' z1 z2 => q VI' ⟨z1, z2⟩)) (fun VI1 hq => ⟨_, ext, rfl, rfl, ?_⟩)) (by omega) (by omega)
      have hM1 : RK ((up VI1 0 17 0) 76) K := by
        rw [up_ne (by omega), hq.1.row 76 (by omega) (by omega) (by omega)]; exact hM
      have hU1 : (up VI1 0 17 0) 74 32 = nI u := by
        rw [up_ne (by omega), hq.1.row 74 (by omega) (by omega) (by omega)]; exact hU.2.2.1
      refine m_passC_ok (a := K 38 + 1) (Q := fun VI' => KM (up VI1 0 17 0) VI' s v ((0 * 4 + 3) % 4) ∧ RK (VI' 76) (ku K 38 (K 38 + 1))) ham (fun P' q => m_pass_ok hM1 hW hz hU1 hn (fun VI' z1 z2 => q VI' ⟨by rw [hg4]; exact z1, z2⟩)) (fun VI2 hq2 => ⟨by rw [hans], St.inv (hS.deed hn hgl hq.1 hq.2 hq2.1 hq2.2 hW2 hun (fun i hi => ku_ne (by omega)))⟩)
end Join6
