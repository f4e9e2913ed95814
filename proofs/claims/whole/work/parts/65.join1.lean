/-! ===== calls that only read, joined ===== -/
set_option maxRecDepth 20000 in
theorem big_of {n : Nat} {w : Int32} (h : nI n ≤ w) (hn : n < 2147483648) : ∃ k, n ≤ k ∧ k < 2147483648 ∧ w = nI k := by
  rw [Int32.le_iff_toInt_le, nI_toInt (by omega)] at h
  have h0 : ¬ w < 0 := by
    rw [Int32.lt_iff_toInt_lt]
    have e0 : (0 : Int32).toInt = 0 := rfl
    omega
  obtain ⟨k, e, hk⟩ := nI_back h0
  have h2 := w.toInt_lt
  exact ⟨k, by omega, by omega, e⟩
section Join1
variable {j : Nat} {lay : HL} {VI : VIT} {VL : VLT} {VR : VRT}
set_option maxRecDepth 20000 in
theorem j_grain (h : Inv j lay VI VL VR) : Pr 100 mi117 mi187 [] lay VI VL VR (Inv (j + 1)) := by
  obtain ⟨ext, G, K, tn, T, u, US, lg, rfl, rfl, hS⟩ := h
  have hI := hS.next.inv (VL := VL)
  obtain ⟨hW, hX, hM, hMi, hT, hU, hDr, -⟩ := hS
  have h6 := hW.n
  have h8 : K 94 ≤ 8 := hW.2.1
  exact Pr_read (VI 0 15) (fun P q => x_grain q) (fun P q => m_grain (by rw [← hMi.2.2.1]; exact q)) hI
set_option maxRecDepth 20000 in
theorem j_fault (h : Inv j lay VI VL VR) : Pr 100 mi120 mi214 [] lay VI VL VR (Inv (j + 1)) := by
  obtain ⟨ext, G, K, tn, T, u, US, lg, rfl, rfl, hS⟩ := h
  have hI := hS.next.inv (VL := VL)
  obtain ⟨hW, hX, hM, hMi, hT, hU, hDr, -⟩ := hS
  have h6 := hW.n
  have h8 : K 94 ≤ 8 := hW.2.1
  exact Pr_read (VI 0 14) (fun P q => x_fault q) (fun P q => m_fault (by rw [← hMi.2.1]; exact q)) hI
set_option maxRecDepth 20000 in
theorem j_stopped (h : Inv j lay VI VL VR) : Pr 100 mi121 mi268 [] lay VI VL VR (Inv (j + 1)) := by
  obtain ⟨ext, G, K, tn, T, u, US, lg, rfl, rfl, hS⟩ := h
  have hI := hS.next.inv (VL := VL)
  obtain ⟨hW, hX, hM, hMi, hT, hU, hDr, -⟩ := hS
  have h6 := hW.n
  have h8 : K 94 ≤ 8 := hW.2.1
  exact Pr_read (VI 0 16) (fun P q => x_stopped q) (fun P q => m_stopped (by rw [← hMi.2.2.2.1]; exact q)) hI
set_option maxRecDepth 20000 in
theorem j_status (h : Inv j lay VI VL VR) : Pr 100 mi144 mi279 [] lay VI VL VR (Inv (j + 1)) := by
  obtain ⟨ext, G, K, tn, T, u, US, lg, rfl, rfl, hS⟩ := h
  have hI := hS.next.inv (VL := VL)
  obtain ⟨hW, hX, hM, hMi, hT, hU, hDr, -⟩ := hS
  have h6 := hW.n
  have h8 : K 94 ≤ 8 := hW.2.1
  exact Pr_read (VI 0 17) (fun P q => x_status q) (fun P q => m_status (by rw [← hMi.1]; exact q)) hI
set_option maxRecDepth 20000 in
theorem j_of {p w : Int32} (h : Inv j lay VI VL VR) : Pr 100 mi110 mi174 [.int p, .int w] lay VI VL VR (Inv (j + 1)) := by
  obtain ⟨ext, G, K, tn, T, u, US, lg, rfl, rfl, hS⟩ := h
  have hI := hS.next.inv (VL := VL)
  obtain ⟨hW, hX, hM, hMi, hT, hU, hDr, -⟩ := hS
  have h6 := hW.n
  have h8 : K 94 ≤ 8 := hW.2.1
  rcases has_cases (n := K 93) (by omega) p with h | ⟨i, hi, rfl⟩
  · exact Pr_read (-1) (fun P q => x_of_out hX h q) (fun P q => m_of_out hM hW h q) hI
  · rcases pk_ix w (n := 7) (by omega) with h | h | ⟨k, hk, rfl⟩
    · exact Pr_read (-1) (fun P q => x_of_neg hX hW hi h q) (fun P q => m_of_neg hM hW hi h q) hI
    · obtain ⟨k, h1, h2, rfl⟩ := big_of h (by omega)
      obtain ⟨q, rfl⟩ : ∃ q, k = q + 3 := ⟨k - 3, by omega⟩
      exact Pr_read (-1) (fun P z => x_of_big hX hW hi (by omega) h2 z) (fun P z => m_of_big hM hW hi (by omega) h2 z) hI
    · rcases (show k = 0 ∨ k = 1 ∨ k = 2 ∨ 3 ≤ k by omega) with rfl | rfl | rfl | h3
      · exact Pr_read _ (fun P q => x_of_0 hX hW hi q) (fun P q => m_of_0 hM hW hi q) hI
      · exact Pr_read _ (fun P q => x_of_1 hX hW hi q) (fun P q => m_of_1 hM hW hi q) hI
      · exact Pr_read _ (fun P q => x_of_2 hX hW hi q) (fun P q => m_of_2 hM hW hi q) hI
      · obtain ⟨q, rfl⟩ : ∃ q, k = q + 3 := ⟨k - 3, by omega⟩
        exact Pr_read _ (fun P z => x_of_3 hX hW hi (by omega) z) (fun P z => m_of_3 hM hW hi (by omega) z) hI
set_option maxRecDepth 20000 in
theorem j_at {p w : Int32} (h : Inv j lay VI VL VR) : Pr 100 mi112 mi183 [.int p, .int w] lay VI VL VR (Inv (j + 1)) := by
  obtain ⟨ext, G, K, tn, T, u, US, lg, rfl, rfl, hS⟩ := h
  have hI := hS.next.inv (VL := VL)
  obtain ⟨hW, hX, hM, hMi, hT, hU, hDr, -⟩ := hS
  have h6 := hW.n
  have h8 : K 94 ≤ 8 := hW.2.1
  rcases has_cases (n := K 94) (by omega) p with h | ⟨i, hi, rfl⟩
  · exact Pr_read (-1) (fun P q => x_at_out hX h q) (fun P q => m_at_out hM hW h q) hI
  · rcases pk_ix w (n := 4) (by omega) with h | h | ⟨k, hk, rfl⟩
    · have hw : w.toInt < 0 ∨ 3 < w.toInt := Or.inl (by rw [Int32.lt_iff_toInt_lt] at h; have e0 : (0 : Int32).toInt = 0 := rfl; omega)
      exact Pr_read (-1) (fun P q => x_at_d hX hW hi hw q) (fun P q => m_at_d hM hW hi hw q) hI
    · have hw : w.toInt < 0 ∨ 3 < w.toInt := Or.inr (by rw [Int32.le_iff_toInt_le, nI_toInt (by omega)] at h; omega)
      exact Pr_read (-1) (fun P q => x_at_d hX hW hi hw q) (fun P q => m_at_d hM hW hi hw q) hI
    · rcases (show k = 0 ∨ k = 1 ∨ k = 2 ∨ k = 3 by omega) with rfl | rfl | rfl | rfl
      · exact Pr_read _ (fun P q => x_at_0 hX hW hi q) (fun P q => m_at_0 hM hW hi q) hI
      · exact Pr_read _ (fun P q => x_at_1 hX hW hi q) (fun P q => m_at_1 hM hW hi q) hI
      · exact Pr_read _ (fun P q => x_at_2 hX hW hi q) (fun P q => m_at_2 hM hW hi q) hI
      · exact Pr_read _ (fun P q => x_at_3 hX hW hi q) (fun P q => m_at_3 hM hW hi q) hI
set_option maxRecDepth 20000 in
theorem j_drawn {p q : Int32} (h : Inv j lay VI VL VR) : Pr 100 mi140 mi276 [.int p, .int q] lay VI VL VR (Inv (j + 1)) := by
  obtain ⟨ext, G, K, tn, T, u, US, lg, rfl, rfl, hS⟩ := h
  have hI := hS.next.inv (VL := VL)
  obtain ⟨hW, hX, hM, hMi, hT, hU, hDr, -⟩ := hS
  have h6 := hW.n
  have h8 : K 94 ≤ 8 := hW.2.1
  rcases has_cases (n := 4) (by omega) q with hq | ⟨e, he, rfl⟩
  · exact Pr_read (-1) (fun P z => x_drawnX (fun P' z => x_drawn_out (Or.inr hq) z) z) (fun P z => m_drawn_out (Or.inr hq) z) hI
  · rcases hDr with ⟨h1, h2⟩ | ⟨n, hn6, h1, h2, h3⟩
    · exact Pr_read (-1) (fun P z => x_drawnX (fun P' z => x_drawn_out (Or.inl (by rw [h1]; exact hasF_z p)) z) z) (fun P z => m_drawn_out (Or.inl (by
        rw [h2]
        simp only [liesF, Int32.lt_iff_toInt_lt, decide_eq_false_iff_not, not_and]
        have e2 : (-1 - 1 : Int32).toInt = -2 := rfl
        have e1 : (0 : Int32).toInt = 0 := rfl
        omega)) z) hI
    · rcases has_cases (n := n) (by omega) p with h | ⟨i, hi, rfl⟩
      · have hl : liesF p 0 (nI n - 1) = false := b1_eq (by rw [lies_has (by omega)]; exact h)
        exact Pr_read (-1) (fun P z => x_drawnX (fun P' z => x_drawn_out (Or.inl (by rw [h1]; exact h)) z) z) (fun P z => m_drawn_out (Or.inl (by rw [h2]; exact hl)) z) hI
      · exact Pr_read (VI 71 (i * 4 + e)) (fun P z => x_drawnX (fun P' z => x_drawn_in h1 hn6 hi he z) z) (fun P z => m_drawn_in h2 hn6 hi he (by rw [← h3 _ (by omega), Nat.mul_comm]; exact z)) hI
set_option maxRecDepth 20000 in
theorem j_count {w : Int32} (h : Inv j lay VI VL VR) : Pr 100 mi143 mi278 [.int w] lay VI VL VR (Inv (j + 1)) := by
  obtain ⟨ext, G, K, tn, T, u, US, lg, rfl, rfl, hS⟩ := h
  have hI := hS.next.inv (VL := VL)
  obtain ⟨hW, hX, hM, hMi, hT, hU, hDr, -⟩ := hS
  have h6 := hW.n
  have h8 : K 94 ≤ 8 := hW.2.1
  by_cases hb : w < 0 ∨ 17 ≤ w
  · exact Pr_read (-1) (fun P q => x_count_d hb q) (fun P q => m_count_d hb q) hI
  · simp only [not_or] at hb
    obtain ⟨k, hk, rfl⟩ := in17 hb.1 hb.2
    have hp1 : popN (lmK K) 8 = popN (lmK K) 6 := by
      rw [pop_msk (fun i hi => hW.life hi), pop_msk (fun i hi => hW.life hi), show min 8 (K 93) = min 6 (K 93) by omega]
    have hp3 : popN (dmK K) 8 = sumN (fun r => K (30 + r)) (K 94) := by
      rw [pop_msk (fun i hi => (hW.roll hi).1), show min 8 (K 94) = K 94 by omega]
    match k, hk with
    | 0, _ => exact Pr_read (VI 3 0) (fun P q => x_count0 q) (fun P q => m_count0 (P_i (hX.n.trans (hM.at 93).symm).symm q)) hI
    | 1, _ => exact Pr_read _ (fun P q => x_count1 hX hW q) (fun P q => m_count1 hM hW (P_i (congrArg nI hp1.symm) q)) hI
    | 2, _ => exact Pr_read (VI 3 5) (fun P q => x_count2 q) (fun P q => m_count2 (P_i (hX.rn.trans (hM.at 94).symm).symm q)) hI
    | 3, _ => exact Pr_read _ (fun P q => x_count3 hX hW q) (fun P q => m_count3 hM hW (P_i (congrArg nI hp3.symm) q)) hI
    | 4, _ => exact Pr_read (VI 3 9) (fun P q => x_count4 q) (fun P q => m_count4 (P_i (hX.tn.trans (hM.at 95).symm).symm q)) hI
    | 5, _ => exact Pr_read (VI 3 14) (fun P q => x_count5 q) (fun P q => m_count5 (P_i (hX.ln.trans (hM.at 96).symm).symm q)) hI
    | 6, _ => exact Pr_read (VI 45 2) (fun P q => x_count6 q) (fun P q => m_count6 (P_i (hU.2.1.trans hU.2.2.1.symm).symm q)) hI
    | 7, _ => exact Pr_read (VI 0 13) (fun P q => x_count7 q) (fun P q => m_count7 (P_i (hT.2.1.trans hT.2.2.1.symm).symm q)) hI
    | 8, _ => exact Pr_read (VI 73 0) (fun P q => x_count8 q) (fun P q => m_count8 (P_i (hMi.2.2.2.2 0 (by decide)).symm q)) hI
    | 9, _ => exact Pr_read (VI 73 1) (fun P q => x_count9 q) (fun P q => m_count9 (P_i (hMi.2.2.2.2 1 (by decide)).symm q)) hI
    | 10, _ => exact Pr_read (VI 73 2) (fun P q => x_count10 q) (fun P q => m_count10 (P_i (hMi.2.2.2.2 2 (by decide)).symm q)) hI
    | 11, _ => exact Pr_read (VI 73 4) (fun P q => x_count11 q) (fun P q => m_count11 (P_i (hMi.2.2.2.2 4 (by decide)).symm q)) hI
    | 12, _ => exact Pr_read (VI 73 5) (fun P q => x_count12 q) (fun P q => m_count12 (P_i (hMi.2.2.2.2 5 (by decide)).symm q)) hI
    | 13, _ => exact Pr_read (VI 3 15) (fun P q => x_count13 q) (fun P q => m_count13 (P_i (hX.fo.trans hM.2.symm).symm q)) hI
    | 14, _ => exact Pr_read (VI 12 0) (fun P q => x_count14 q) (fun P q => m_count14 (P_i (hX.t0.trans (hM.at 38).symm).symm q)) hI
    | 15, _ => exact Pr_read (VI 12 1) (fun P q => x_count15 q) (fun P q => m_count15 (P_i (hX.t1.trans (hM.at 91).symm).symm q)) hI
    | 16, _ => exact Pr_read (VI 12 2) (fun P q => x_count16 q) (fun P q => m_count16 (P_i (hX.t2.trans (hM.at 92).symm).symm q)) hI
    | n + 17, h => exact absurd h (by omega)
end Join1
