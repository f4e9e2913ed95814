/-! ===== what can be undone: both sides keep a deed ===== -/
-- where the next deed stands among u: v, the earlier ones moved by s
def Nxt (u s v : Nat) : Prop := (u < 16 ∧ s = 0 ∧ v = u) ∨ (u = 16 ∧ s = 1 ∧ v = 15)
set_option maxRecDepth 20000 in
theorem nxt {u : Nat} (h : u ≤ 16) : ∃ s v, Nxt u s v := by
  by_cases c : u < 16
  · exact ⟨0, u, Or.inl ⟨c, rfl, rfl⟩⟩
  · exact ⟨1, 15, Or.inr ⟨by omega, rfl, rfl⟩⟩
def cp (g : Nat → Int32) (t : Nat) (f : Nat → Int32) (n : Nat) : Nat → Int32 := fun i => if t ≤ i ∧ i < t + n then f (i - t) else g i
set_option maxRecDepth 20000 in
theorem cp_step {V : VIT} {a : Nat} {g f : Nat → Int32} {t n : Nat} {x : Int32} (hx : x = f n) : up (uw V a (cp g t f n)) a (t + n) x = uw V a (cp g t f (n + 1)) := by
  funext b k
  by_cases h : b = a
  · subst h
    simp only [up, uw, if_true]
    unfold cp
    by_cases hk : k = t + n
    · subst hk
      rw [if_pos rfl, if_pos (by omega), Nat.add_sub_cancel_left]; exact hx
    · rw [if_neg hk]
      by_cases h2 : t ≤ k ∧ k < t + n
      · rw [if_pos h2, if_pos (by omega)]
      · rw [if_neg h2, if_neg (by omega)]
  · rw [up_ne h, uw_ne h, uw_ne h]
set_option maxRecDepth 20000 in
theorem cp_0 {V : VIT} {a : Nat} {f : Nat → Int32} {t : Nat} : uw V a (cp (V a) t f 0) = V := by
  refine uw_id ?_
  funext i
  unfold cp
  rw [if_neg (by omega)]
def sh (g : Nat → Int32) (n : Nat) : Nat → Int32 := fun i => if i < n then g (i + 40) else g i
set_option maxRecDepth 20000 in
theorem sh_step {V : VIT} {g : Nat → Int32} {n : Nat} {x : Int32} (hx : x = g (n + 40)) : up (uw V 88 (sh g n)) 88 n x = uw V 88 (sh g (n + 1)) := by
  funext b k
  by_cases h : b = 88
  · subst h
    simp only [up, uw, if_true]
    unfold sh
    by_cases hk : k = n
    · subst hk
      rw [if_pos rfl, if_pos (by omega)]; exact hx
    · rw [if_neg hk]
      by_cases h2 : k < n
      · rw [if_pos h2, if_pos (by omega)]
      · rw [if_neg h2, if_neg (by omega)]
  · rw [up_ne h, uw_ne h, uw_ne h]
set_option maxRecDepth 20000 in
theorem sh_0 {V : VIT} : uw V 88 (sh (V 88) 0) = V := by
  refine uw_id ?_
  funext i
  unfold sh
  rw [if_neg (by omega)]
section Keep
variable {d : Nat} {VI : VIT} {VL : VLT} {G : VRT} {P : Post} {ext : HL}
set_option maxRecDepth 20000 in
theorem s_keep_lt {dd g u : Nat} (hu : VI 45 2 = nI u) (h : u < 16) (hP : P none (LY ++ ext) (up (up VI 46 u (nI (g * 4 + dd))) 45 2 (nI (u + 1))) VL (vr G)) : Ex d mi10 0 (entL [.ref 45, .int (nI dd), .int (nI g)] 3) [] (LY ++ ext) VI VL (vr G) 0 0 P := by
  refine x_aload_n rfl rfl ?_
  refine x_getE (y := 2) rfl rfl rfl (hu) ?_
  refine x_bipushN (q := 16) rfl ?_
  refine x_icmpN_lt rfl (fun c6 => ?_) (fun c6 => ?_)
  rotate_left
  · exact absurd c6 (by first | decide | omega)
  refine x_aload_n rfl rfl ?_
  refine x_getR (u := .ref _) rfl rfl rfl rfl ?_
  refine x_aload_n rfl rfl ?_
  refine x_getE (y := 2) rfl rfl rfl (hu) ?_
  refine x_iload_n rfl rfl ?_
  refine x_iconstN (q := 4) rfl ?_
  refine x_imulN rfl ?_
  refine x_iload_n rfl rfl ?_
  refine x_iaddN rfl ?_
  refine x_iasN (j := u) rfl rfl (rfl) (by omega) ?_
  refine x_aload_n rfl rfl ?_
  refine x_dup rfl rfl ?_
  refine x_getE (y := 2) rfl rfl rfl (hu) ?_
  refine x_iconstN (q := 1) rfl ?_
  refine x_iaddN rfl ?_
  refine x_putI rfl rfl rfl rfl ?_
  refine x_vret rfl rfl ?_
  exact hP
set_option maxRecDepth 20000 in
theorem s_keep_full {dd g : Nat} (hu : VI 45 2 = nI 16) (hP : P none (LY ++ ext) (up (up (up (uw VI 46 (va_cpy (VI 46) (VI 46) 1 0 15)) 45 2 (nI 15)) 46 15 (nI (g * 4 + dd))) 45 2 (nI 16)) VL (vr G)) : Ex d mi10 0 (entL [.ref 45, .int (nI dd), .int (nI g)] 3) [] (LY ++ ext) VI VL (vr G) 0 0 P := by
  refine x_aload_n rfl rfl ?_
  refine x_getE (y := 2) rfl rfl rfl (hu) ?_
  refine x_bipushN (q := 16) rfl ?_
  refine x_icmpN_lt rfl (fun c6 => ?_) (fun c6 => ?_)
  · exact absurd c6 (by first | decide | omega)
  refine x_aload_n rfl rfl ?_
  refine x_getR (u := .ref _) rfl rfl rfl rfl ?_
  refine x_iconstN (q := 1) rfl ?_
  refine x_aload_n rfl rfl ?_
  refine x_getR (u := .ref _) rfl rfl rfl rfl ?_
  refine x_iconstN (q := 0) rfl ?_
  refine x_bipushN (q := 15) rfl ?_
  refine x_copy rfl rfl rfl (by decide) (by decide) (by decide) (by decide) (by decide) rfl ?_
  refine x_aload_n rfl rfl ?_
  refine x_bipushN (q := 15) rfl ?_
  refine x_putI rfl rfl rfl rfl ?_
  skip
  refine x_aload_n rfl rfl ?_
  refine x_getR (u := .ref _) rfl rfl rfl rfl ?_
  refine x_aload_n rfl rfl ?_
  refine x_getE (y := 2) rfl rfl rfl (show _ = nI 15 from rfl) ?_
  refine x_iload_n rfl rfl ?_
  refine x_iconstN (q := 4) rfl ?_
  refine x_imulN rfl ?_
  refine x_iload_n rfl rfl ?_
  refine x_iaddN rfl ?_
  refine x_iasN (j := 15) rfl rfl (rfl) (by omega) ?_
  refine x_aload_n rfl rfl ?_
  refine x_dup rfl rfl ?_
  refine x_getE (y := 2) rfl rfl rfl (show _ = nI 15 from rfl) ?_
  refine x_iconstN (q := 1) rfl ?_
  refine x_iaddN rfl ?_
  refine x_putI rfl rfl rfl rfl ?_
  refine x_vret rfl rfl ?_
  exact hP
set_option maxRecDepth 20000 in
theorem s_keep {dd g u s v : Nat} (hu : VI 45 2 = nI u) (hn : Nxt u s v) (hP : ∀ VI' : VIT, VI' 45 2 = nI (v + 1) → (∀ i, i < v → VI' 46 i = VI 46 (i + s)) → VI' 46 v = nI (g * 4 + dd) → (∀ a k, a ≠ 46 → ¬ (a = 45 ∧ k = 2) → VI' a k = VI a k) → P none (LY ++ ext) VI' VL (vr G)) : Ex d mi10 0 (entL [.ref 45, .int (nI dd), .int (nI g)] 3) [] (LY ++ ext) VI VL (vr G) 0 0 P := by
  rcases hn with ⟨h, rfl, rfl⟩ | ⟨rfl, rfl, rfl⟩
  · refine s_keep_lt hu h (hP _ rfl (fun i hi => ?_) ?_ (fun a k h1 h2 => ?_))
    · rw [up_ne (by omega), up_at' (by omega)]; rfl
    · rw [up_ne (by omega), up_at]
    · rw [up_ne2 h2, up_ne h1]
  · refine s_keep_full hu (hP _ rfl (fun i hi => ?_) ?_ (fun a k h1 h2 => ?_))
    · rw [up_ne (by omega), up_at' (by omega), up_ne (by omega), uw_same, pk_cpy_in (by omega) (by omega)]
      congr 1; omega
    · rw [up_ne (by omega), up_at]
    · rw [up_ne2 h2, up_ne h1, up_ne2 h2, uw_ne h1]
set_option maxRecDepth 20000 in
theorem m_keeps_l2 {dd v : Nat} (hv : VI 74 32 = nI v) (hv15 : v ≤ 15) (hP : P none (LY ++ ext) (up (up (uw VI 88 (cp (VI 88) (40 * v) (VI 76) 39)) 88 (40 * v + 39) (nI dd)) 74 32 (nI (v + 1))) VL (vr G)) : ∀ (m i : Nat), i + m = 39 → Ex (d + 0) mi235 54 [.ref 74, .int (nI dd), .int (nI 40), .int (nI i)] [] (LY ++ ext) (uw VI 88 (cp (VI 88) (40 * v) (VI 76) i)) VL (vr G) 0 0 P := by
  intro m
  induction m with
  | zero =>
    intro i hi
    have e : i = 39 := by omega
    subst e
    refine x_iload_n rfl rfl ?_
    refine x_bipushN (q := 39) rfl ?_
    refine x_icmpN_ge rfl (fun c57 => ?_) (fun c57 => ?_)
    rotate_left
    · exact absurd c57 (by first | decide | omega)
    refine x_aload_n rfl rfl ?_
    refine x_getR (u := .ref _) rfl rfl rfl rfl ?_
    refine x_iload_n rfl rfl ?_
    refine x_aload_n rfl rfl ?_
    refine x_getE (y := 32) rfl rfl rfl (hv) ?_
    refine x_imulN rfl ?_
    refine x_bipushN (q := 39) rfl ?_
    refine x_iaddN rfl ?_
    refine x_iload_n rfl rfl ?_
    refine x_iasN (j := 40 * v + 39) rfl rfl (rfl) (by omega) ?_
    refine x_aload_n rfl rfl ?_
    refine x_dup rfl rfl ?_
    refine x_getE (y := 32) rfl rfl rfl (hv) ?_
    refine x_iconstN (q := 1) rfl ?_
    refine x_iaddN rfl ?_
    refine x_putI rfl rfl rfl rfl ?_
    refine x_vret rfl rfl ?_
    exact hP | succ m ih =>
    intro i hi
    refine x_iload_n rfl rfl ?_
    refine x_bipushN (q := 39) rfl ?_
    refine x_icmpN_ge rfl (fun c57 => ?_) (fun c57 => ?_)
    · exact absurd c57 (by first | decide | omega)
    refine x_aload_n rfl rfl ?_
    refine x_getR (u := .ref _) rfl rfl rfl rfl ?_
    refine x_iload_n rfl rfl ?_
    refine x_aload_n rfl rfl ?_
    refine x_getE (y := 32) rfl rfl rfl (hv) ?_
    refine x_imulN rfl ?_
    refine x_iload_n rfl rfl ?_
    refine x_iaddN rfl ?_
    refine x_aload_n rfl rfl ?_
    refine x_getR (u := .ref _) rfl rfl rfl rfl ?_
    refine x_iload_n rfl rfl ?_
    refine x_ialN (j := i) rfl rfl (rfl) (by omega) ?_
    refine x_iasN (j := 40 * v + i) rfl rfl (rfl) (by omega) ?_
    refine x_iincN (q := 1) (ls' := [_, _, _, _]) rfl rfl rfl rfl ?_
    refine x_goto rfl ?_
    rw [uw_ne (show (76 : Nat) ≠ 88 by decide), cp_step (f := VI 76) rfl]
    exact ih (i + 1) (by omega)
set_option maxRecDepth 20000 in
theorem m_keeps_l1 {dd : Nat} (hP : Ex (d + 0) mi235 42 [.ref 74, .int (nI dd), .int (nI 40), .int (nI 600)] [] (LY ++ ext) (uw VI 88 (sh (VI 88) 600)) VL (vr G) 0 0 P) : ∀ (m i : Nat), i + m = 600 → Ex (d + 0) mi235 14 [.ref 74, .int (nI dd), .int (nI 40), .int (nI i)] [] (LY ++ ext) (uw VI 88 (sh (VI 88) i)) VL (vr G) 0 0 P := by
  intro m
  induction m with
  | zero =>
    intro i hi
    have e : i = 600 := by omega
    subst e
    refine x_iload_n rfl rfl ?_
    refine x_bipushN (q := 15) rfl ?_
    refine x_iload_n rfl rfl ?_
    refine x_imulN rfl ?_
    refine x_icmpN_ge rfl (fun c19 => ?_) (fun c19 => ?_)
    rotate_left
    · exact absurd c19 (by first | decide | omega)
    exact hP | succ m ih =>
    intro i hi
    refine x_iload_n rfl rfl ?_
    refine x_bipushN (q := 15) rfl ?_
    refine x_iload_n rfl rfl ?_
    refine x_imulN rfl ?_
    refine x_icmpN_ge rfl (fun c19 => ?_) (fun c19 => ?_)
    · exact absurd c19 (by first | decide | omega)
    refine x_aload_n rfl rfl ?_
    refine x_getR (u := .ref _) rfl rfl rfl rfl ?_
    refine x_iload_n rfl rfl ?_
    refine x_aload_n rfl rfl ?_
    refine x_getR (u := .ref _) rfl rfl rfl rfl ?_
    refine x_iload_n rfl rfl ?_
    refine x_iload_n rfl rfl ?_
    refine x_iaddN rfl ?_
    refine x_ialN (j := i + 40) rfl rfl (rfl) (by omega) ?_
    refine x_iasN (j := i) rfl rfl (rfl) (by omega) ?_
    refine x_iincN (q := 1) (ls' := [_, _, _, _]) rfl rfl rfl rfl ?_
    refine x_goto rfl ?_
    rw [uw_same, sh_step (g := VI 88) (n := i) (by unfold sh; rw [if_neg (by omega)])]
    exact ih (i + 1) (by omega)
set_option maxRecDepth 20000 in
theorem m_keeps {dd u s v : Nat} (hu : VI 74 32 = nI u) (hn : Nxt u s v) (hP : ∀ VI' : VIT, VI' 74 32 = nI (v + 1) → (∀ k, k < 40 * v → VI' 88 k = VI 88 (k + 40 * s)) → (∀ k, k < 39 → VI' 88 (40 * v + k) = VI 76 k) → VI' 88 (40 * v + 39) = nI dd → (∀ a k, a ≠ 88 → ¬ (a = 74 ∧ k = 32) → VI' a k = VI a k) → P none (LY ++ ext) VI' VL (vr G)) : Ex d mi235 0 (entL [.ref 74, .int (nI dd)] 4) [] (LY ++ ext) VI VL (vr G) 0 0 P := by
  rcases hn with ⟨h, rfl, rfl⟩ | ⟨rfl, rfl, rfl⟩
  · have hl := m_keeps_l2 (d := d) (VI := VI) (VL := VL) (G := G) (P := P) (ext := ext) (dd := dd) hu (by omega) (hP _ rfl (fun k hk => by
        rw [up_ne (by omega), up_at' (by omega), uw_same]; unfold cp; rw [if_neg (by omega)]; rfl) (fun k hk => by
        rw [up_ne (by omega), up_at' (by omega), uw_same]; unfold cp; rw [if_pos (by omega), Nat.add_sub_cancel_left]) (by rw [up_ne (by omega), up_at]) (fun a k h1 h2 => by rw [up_ne2 h2, up_ne h1, uw_ne h1])) 39 0 (by omega)
    rw [cp_0] at hl
    refine x_bipushN (q := 40) rfl ?_
    refine x_istore_n (ls' := [_, _, _, _]) rfl rfl rfl ?_
    refine x_aload_n rfl rfl ?_
    refine x_getE (y := 32) rfl rfl rfl (hu) ?_
    refine x_bipushN (q := 16) rfl ?_
    refine x_icmpN_ne rfl (fun c9 => ?_) (fun c9 => ?_)
    rotate_left
    · exact absurd c9 (by first | decide | omega)
    refine x_iconstN (q := 0) rfl ?_
    refine x_istore_n (ls' := [_, _, _, _]) rfl rfl rfl ?_
    exact hl
  · have hl := m_keeps_l2 (d := d) (VI := up (uw VI 88 (sh (VI 88) 600)) 74 32 (nI 15)) (VL := VL) (G := G) (P := P) (ext := ext) (dd := dd) (v := 15) rfl (by omega) (hP _ rfl (fun k hk => by
        rw [up_ne (by omega), up_at' (by omega), uw_same]; unfold cp; rw [if_neg (by omega)]
        show sh (VI 88) 600 k = _
        unfold sh; rw [if_pos (by omega)]) (fun k hk => by
        rw [up_ne (by omega), up_at' (by omega), uw_same]; unfold cp; rw [if_pos (by omega), Nat.add_sub_cancel_left]; rfl) (by rw [up_ne (by omega), up_at]) (fun a k h1 h2 => by rw [up_ne2 h2, up_ne h1, uw_ne h1, up_ne2 h2, uw_ne h1])) 39 0 (by omega)
    rw [cp_0] at hl
    have hl1 := m_keeps_l1 (d := d) (VI := VI) (VL := VL) (G := G) (P := P) (ext := ext) (dd := dd) (by
      refine x_aload_n rfl rfl ?_
      refine x_dup rfl rfl ?_
      refine x_getE (y := 32) rfl rfl rfl (hu) ?_
      refine x_iconstN (q := 1) rfl ?_
      refine x_isubN rfl ?_
      refine x_putI rfl rfl rfl rfl ?_
      refine x_iconstN (q := 0) rfl ?_
      refine x_istore_n (ls' := [_, _, _, _]) rfl rfl rfl ?_
      exact hl) 600 0 (by omega)
    rw [sh_0] at hl1
    refine x_bipushN (q := 40) rfl ?_
    refine x_istore_n (ls' := [_, _, _, _]) rfl rfl rfl ?_
    refine x_aload_n rfl rfl ?_
    refine x_getE (y := 32) rfl rfl rfl (hu) ?_
    refine x_bipushN (q := 16) rfl ?_
    refine x_icmpN_ne rfl (fun c9 => ?_) (fun c9 => ?_)
    · exact absurd c9 (by first | decide | omega)
    refine x_iconstN (q := 0) rfl ?_
    refine x_istore_n (ls' := [_, _, _, _]) rfl rfl rfl ?_
    exact hl1
end Keep
set_option maxRecDepth 20000 in
theorem Undoes.cong {n rn g : Nat} {A A' B B' : KT} (h : Undoes n rn g A B) (hn : n ≤ 6) (hr : rn ≤ 8) (eA : ∀ k, k < 39 → A' k = A k) (eB : ∀ k, k < 39 → B' k = B k) : Undoes n rn g A' B' := by
  rcases h with ⟨h1, dy, p, q, m, a1, a2, a3, a4, a5, a6, a7, a8, a9⟩ | ⟨h1, a1, a2, a3, a4⟩ | ⟨h1, a1, a2, a3, a4⟩ | ⟨h1, a1, a2⟩
  · refine Or.inl ⟨h1, dy, p, q, m, a1, a2, a3, a4, a5, a6, ?_, ?_, fun k hk h2 h3 => ?_⟩
    · rw [eB _ (by omega)]; exact a7
    · rw [eB _ (by omega)]; exact a8
    · rw [eB k hk, eA k hk]; exact a9 k hk h2 h3
  · refine Or.inr (Or.inl ⟨h1, a1, ?_, ?_, fun k hk h2 => ?_⟩)
    · rw [eA _ (by omega)]; exact a2
    · rw [eB _ (by omega)]; exact a3
    · rw [eB k hk, eA k hk]; exact a4 k hk h2
  · refine Or.inr (Or.inr (Or.inl ⟨h1, a1, ?_, ?_, fun k hk h2 => ?_⟩))
    · rw [eA _ (by omega)]; exact a2
    · rw [eB _ (by omega)]; exact a3
    · rw [eB k hk, eA k hk]; exact a4 k hk h2
  · refine Or.inr (Or.inr (Or.inr ⟨h1, ?_, fun k hk => ?_⟩))
    · rw [eA _ (by omega), eB _ (by omega)]; exact a1
    · rw [eB k (by omega), eA k (by omega)]; exact a2 k hk
def US1 (US : Nat → KT) (s v : Nat) (K' : KT) : Nat → KT := fun i => if i = v + 1 then K' else US (i + s)
def lg1 (lg : Nat → Nat) (s v g : Nat) : Nat → Nat := fun i => if i = v then g else lg (i + s)
set_option maxRecDepth 20000 in
theorem Und.keep {K K' : KT} {u s v g : Nat} {US : Nat → KT} {lg : Nat → Nat} {VI VI' : VIT} (h : Und K u US lg VI) (hW : WF K) (hn : Nxt u s v) (hg : g < 65536) (e93 : K' 93 = K 93) (e94 : K' 94 = K 94) (hu : Undoes (K 93) (K 94) g K' K) (hM : RK (VI 76) K) (x1 : VI' 45 2 = nI (v + 1)) (x2 : ∀ i, i < v → VI' 46 i = VI 46 (i + s)) (x3 : VI' 46 v = nI g) (m1 : VI' 74 32 = nI (v + 1)) (m2 : ∀ k, k < 40 * v → VI' 88 k = VI 88 (k + 40 * s)) (m3 : ∀ k, k < 39 → VI' 88 (40 * v + k) = VI 76 k) (m4 : VI' 88 (40 * v + 39) = nI (g % 4)) : Und K' (v + 1) (US1 US s v K') (lg1 lg s v g) VI' := by
  obtain ⟨h1, h2, h3, h4, h5⟩ := h
  have h6 := hW.n
  have h8 : K 94 ≤ 8 := hW.2.1
  have hus : v + s = u ∧ v < 16 := by rcases hn with ⟨a, rfl, rfl⟩ | ⟨rfl, rfl, rfl⟩ <;> omega
  refine ⟨by omega, x1, m1, fun k hk => by unfold US1; rw [if_pos rfl], fun i hi => ?_⟩
  rw [e93, e94]
  by_cases c : i = v
  · subst c
    refine ⟨by unfold lg1; rw [if_pos rfl]; exact x3, by unfold lg1; rw [if_pos rfl]; exact hg, by unfold lg1; rw [if_pos rfl]; exact m4, fun k hk => ?_, ?_⟩
    · rw [m3 k hk]
      unfold US1
      rw [if_neg (by omega), hus.1, h4 k hk]
      exact hM.at k
    · unfold lg1 US1
      rw [if_pos rfl, if_pos rfl, if_neg (by omega), hus.1]
      exact hu.cong h6 h8 (fun _ _ => rfl) (fun k hk => h4 k hk)
  · obtain ⟨g1, g2, g3, g4, g5⟩ := h5 (i + s) (by omega)
    have el : lg1 lg s v g i = lg (i + s) := if_neg c
    have eu : US1 US s v K' i = US (i + s) := if_neg (by omega)
    have eu1 : ∀ k, k < 39 → US1 US s v K' (i + 1) k = US (i + s + 1) k := by
      intro k hk
      unfold US1
      rw [if_neg (by omega), show i + 1 + s = i + s + 1 by omega]
    rw [el, eu]
    refine ⟨by rw [x2 i (by omega)]; exact g1, g2, ?_, fun k hk => ?_, g5.cong h6 h8 eu1 (fun _ _ => rfl)⟩
    · rw [m2 _ (by omega), show 40 * i + 39 + 40 * s = 40 * (i + s) + 39 by omega]; exact g3
    · rw [m2 _ (by omega), show 40 * i + k + 40 * s = 40 * (i + s) + k by omega]; exact g4 k hk
