/-! ===== the class reads a text: split, then clauses ===== -/
section ReadJ
variable {d : Nat} {V0 V : VIT} {VL : VLT} {G : VRT} {P : Post} {ext : HL} {o : Bool} {n nw : Nat} {T tc tv wm : Nat → Nat}
set_option maxRecDepth 20000 in
theorem x_clear (hP : P none (LY ++ ext) (up (up V 38 2 (nI 0)) 38 3 (nI 0)) VL (vr G)) : Ex d mi82 0 (entL [.ref 38] 1) [] (LY ++ ext) V VL (vr G) 0 0 P := by
  refine x_aload_n rfl rfl ?_
  refine x_iconstN (q := 0) rfl ?_
  refine x_putI rfl rfl rfl rfl ?_
  refine x_aload_n rfl rfl ?_
  refine x_iconstN (q := 0) rfl ?_
  refine x_putI rfl rfl rfl rfl ?_
  refine x_vret rfl rfl ?_
  exact hP
set_option maxRecDepth 20000 in
theorem x_read (hnw : nw = if o = true then 36 else 9) (hwm : wm = if o = true then owm else lwm) (hn : n ≤ 400) (hT : ∀ k, k < n → T k < 256 ∧ V 72 k = nI (T k)) (hK : TokC T n tc tv)
  (h1 : ∀ (V' : VIT) (l' : Nat) (cl : List Cla), pTxt o tc tv (Tks T n).length 12 0 0 = (1, (Tks T n).length, cl) → FrQx V V' → V' 37 1 = -1 → V' 38 2 = nI cl.length → cl.length ≤ 12 → V' 38 3 = nI l' → l' ≤ 800 → CodR V' 0 l' → (∀ j c, cl[j]? = some c → ClaV nw wm V' l' j c) → P (some (.int (nI 1))) (LY ++ ext) V' VL (vr G))
  (h0 : ∀ (V' : VIT) (i' : Nat), (pTxt o tc tv (Tks T n).length 12 0 0).1 = 0 → (pTxt o tc tv (Tks T n).length 12 0 0).2.1 = i' → FrQx V V' → V' 37 1 = nI (plT T n i') → P (some (.int (nI 0))) (LY ++ ext) V' VL (vr G)) : Ex (d + 34) mi40 0 (entL [.ref 37, .ref 72, .int (nI n), .int (nI (if o = true then 1 else 0))] 5) [] (LY ++ ext) V VL (vr G) 0 0 P := by
  have hlen : (Tks T n).length ≤ n - 0 := tks_len n 0
  have hFx : ∀ {b : Int32}, FrQx V (up (up (up (up (up (up V 37 7 b) 37 6 (nI 0)) 37 5 (nI 0)) 37 1 (-1)) 38 2 (nI 0)) 38 3 (nI 0)) := fun {b} a k q1 q2 q3 q4 q5 q6 => by rw [up_ne2 (by omega), up_ne2 (by omega), up_ne2 (by omega), up_ne2 (by omega), up_ne2 (by omega), up_ne2 (by omega)]
  refine x_aload_n rfl rfl ?_
  refine x_iload_n rfl rfl ?_
  refine x_putZ rfl rfl rfl rfl (by cases o <;> first | exact Or.inl rfl | exact Or.inr rfl) ?_
  refine x_aload_n rfl rfl ?_
  refine x_iconstN (q := 0) rfl ?_
  refine x_putI rfl rfl rfl rfl ?_
  refine x_aload_n rfl rfl ?_
  refine x_iconstN (q := 0) rfl ?_
  refine x_putI rfl rfl rfl rfl ?_
  refine x_aload_n rfl rfl ?_
  refine x_iconst rfl ?_
  refine x_putI rfl rfl rfl rfl ?_
  refine x_aload_n rfl rfl ?_
  refine x_getR (u := .ref _) rfl rfl rfl rfl ?_
  refine x_callV (M' := mi82) (As := []) (bc1 := 0) (bs1 := 0) (bc2 := 0) (bs2 := 0) rfl rfl rfl rfl ok82 rfl rfl (by decide) rfl rfl rfl rfl rfl rfl ?_
  refine x_clear ?_
  refine x_aload_n rfl rfl ?_
  refine x_aload_n rfl rfl ?_
  refine x_iload_n rfl rfl ?_
  refine x_aload_n rfl rfl ?_
  refine x_alen0 rfl rfl ?_
  refine x_sipushN (q := 400) rfl ?_
  refine x_min rfl rfl ?_
  rw [show (if nI 400 < Int32.ofNat 400 then nI 400 else Int32.ofNat 400) = nI 400 from by split <;> rfl]
  refine x_min rfl rfl ?_
  rw [minI (by omega) (by omega), show (if 400 < n then 400 else n) = n from if_neg (by omega)]
  refine x_callV (M' := mi41) (As := [_, _]) (bc1 := 0) (bs1 := 0) (bc2 := 0) (bs2 := 0) rfl rfl rfl rfl ok41 rfl rfl (by decide) rfl rfl rfl rfl rfl rfl ?_
  refine x_split hn (fun k hk => ⟨(hT k hk).1, by rw [up_ne (by omega), up_ne (by omega), up_ne (by omega), up_ne (by omega), up_ne (by omega), up_ne (by omega)]; exact (hT k hk).2⟩) (fun V3 F1 C1 a1 a2 a3 => ?_)
  refine x_iconstN (q := 0) rfl ?_
  refine x_istore (ls' := [_, _, _, _, _]) rfl rfl rfl ?_
  skip
  have g : ∀ a k, (a = 37 ∧ k ≠ 4) ∨ a = 38 → V3 a k = _ := fun a k q => F1 a k (by omega) (by omega) (by omega)
  have hS3 : CS 0 0 0 V3 := by
    refine ⟨?_, ?_, ?_, ?_⟩
    · rw [g 37 5 (by omega), up_ne2 (by omega), up_ne2 (by omega), up_ne2 (by omega), up_at]
    · rw [g 37 6 (by omega), up_ne2 (by omega), up_ne2 (by omega), up_ne2 (by omega), up_ne2 (by omega), up_at]
    · rw [g 37 1 (by omega), up_ne2 (by omega), up_ne2 (by omega), up_at]
    · rw [g 38 3 (by omega), up_at]
  have h7 : V3 37 7 = nI (if o = true then 1 else 0) := by
    rw [g 37 7 (by omega), up_ne2 (by omega), up_ne2 (by omega), up_ne2 (by omega), up_ne2 (by omega), up_ne2 (by omega), up_at]
  have h2 : V3 38 2 = nI 0 := by
    rw [g 38 2 (by omega), up_ne2 (by omega), up_at]
  have hF3 : FrQx V V3 := fun a k q1 q2 q3 q4 q5 q6 => (F1 a k q5 q6 (by omega)).trans (hFx a k q1 q2 q3 q4 q5 q6)
  obtain ⟨ct, hA, hE⟩ := ckA_of (o := o) hn (fun k hk => (hT k hk).1) hK C1 a1 a2 a3 h7
  exact x_readLoop (d := d) hnw hwm hA hE (fun V' l' cl b1 b2 b3 b4 b5 b6 b7 b8 b9 => h1 V' l' cl b1 (hF3.trans b2.frQ) b3 b4 b5 b6 b7 b8 b9) (fun V' i' b1 b2 b3 b4 => h0 V' i' b1 b2 (hF3.trans b3.frQ) b4) 12 0 0 0 0 V3 [] rfl rfl FrK.refl hS3 h2 (Nat.zero_le _) (Nat.zero_le _) (Nat.zero_le _) (fun k a b => absurd b (by omega)) (fun j c hj => by cases hj) rfl
end ReadJ
