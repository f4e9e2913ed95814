/-! ===== the law from its entry ===== -/
def refsChk (VR VR' : VRT) : HL → Nat → Bool
  | [], _ => true
  | .inr ci :: r, a => (List.range (cnf ci)).all (fun k => decide (VR' a k = VR a k)) && refsChk VR VR' r (a + 1)
  | .inl q :: r, a => (if q.1 = 4 ∨ q.1 = 5 then (List.range q.2).all (fun k => decide (VR' a k = VR a k)) else true) && refsChk VR VR' r (a + 1)
theorem refsChk_ok {VR VR' : VRT} : ∀ (lay : HL) (b : Nat), refsChk VR VR' lay b = true → ∀ (a : Nat) (x : (Nat × Nat) ⊕ Nat), lay[a]? = some x → match x with
    | .inr ci => ∀ k, k < cnf ci → VR' (b + a) k = VR (b + a) k
    | .inl q => (q.1 = 4 ∨ q.1 = 5) → ∀ k, k < q.2 → VR' (b + a) k = VR (b + a) k
  | [], _, _, a, x, hx => by simp at hx
  | z :: r, b, h, 0, x, hx => by
    simp only [List.getElem?_cons_zero, Option.some.injEq] at hx
    subst hx
    cases z with
    | inr ci =>
      simp only [refsChk, Bool.and_eq_true, List.all_eq_true, List.mem_range, decide_eq_true_eq] at h
      exact fun k hk => h.1 k hk
    | inl q =>
      simp only [refsChk, Bool.and_eq_true] at h
      intro hq k hk
      have h1 := h.1
      rw [if_pos hq] at h1
      simp only [List.all_eq_true, List.mem_range, decide_eq_true_eq] at h1
      exact h1 k hk
  | z :: r, b, h, a + 1, x, hx => by
    have h2 : refsChk VR VR' r (b + 1) = true := by
      cases z with
      | inr ci => simp only [refsChk, Bool.and_eq_true] at h; exact h.2
      | inl q => simp only [refsChk, Bool.and_eq_true] at h; exact h.2
    have h3 := refsChk_ok r (b + 1) h2 a x (by simpa using hx)
    rw [show b + (a + 1) = b + 1 + a by omega]
    exact h3
set_option maxRecDepth 20000 in
theorem refs0 : refsIn (LY ++ []) VRm (vr ZR) := by
  have h : refsChk VRm (vr ZR) (LY ++ []) 0 = true := by decide +kernel
  intro a x hx
  have := refsChk_ok (LY ++ []) 0 h a x hx
  cases x with
  | inr ci => intro k hk; have := this k hk; simpa only [Nat.zero_add] using this
  | inl q => intro hq k hk; have := this hq k hk; simpa only [Nat.zero_add] using this
set_option maxRecDepth 20000 in
theorem law_ex {L : Nat} {xs : Nat → Int32} {Inv : Nat → HL → VIT → VLT → VRT → Prop} (hL : L ≤ 3072) (h0 : Inv 0 (LY ++ []) VIm ZL (vr ZR)) (hlay : ∀ j lay VI VL VR, Inv j lay VI VL VR → ∃ ext, lay = LY ++ ext) (hskip : ∀ j lay VI VL VR, Inv j lay VI VL VR → Inv (j + 1) lay VI VL VR)
    (hstep : ∀ j lay VI VL VR, 6 * j + 6 ≤ L → Inv j lay VI VL VR → ∀ c, c < 36 → ∀ a : List Int32, a.length = 5 → Call 100 c a lay VI VL VR (Inv (j + 1))) :
    ExS (Scr L xs) 101 mi999 0 (entL [.float 0] 4) [] [] Z0 ZL ZR 600000 7302250 one := by
  have hlp := law_loop (xs := xs) (D := 100) hL hlay hskip hstep 512 0 (LY ++ []) VIm ZL (vr ZR) (by omega) (by omega) h0
  refine x_newC (n := 0) (lay' := LY.take 1) (bc' := 599999) (bs' := 7302232) rfl rfl rfl rfl rfl rfl rfl rfl rfl ?_
  refine x_dup rfl rfl ?_
  refine x_callI (M' := mi108) (As := []) (bc1 := 73) (bs1 := 19772) (bc2 := 599926) (bs2 := 7282460) rfl rfl rfl rfl ok108 rfl rfl rfl rfl rfl rfl rfl rfl ?_
  refine s_ctorX ?_
  refine x_astore_n (ls' := [_, _, _, _]) rfl rfl rfl ?_
  refine x_newC (n := 74) (lay' := LY.take 75) (bc' := 599925) (bs' := 7282408) rfl rfl rfl rfl rfl rfl rfl rfl rfl ?_
  refine x_dup rfl rfl ?_
  refine x_callI (M' := mi159) (As := []) (bc1 := 25) (bs1 := 41373) (bc2 := 599900) (bs2 := 7241035) rfl rfl rfl rfl ok159 rfl rfl rfl rfl rfl rfl rfl rfl ?_
  refine s_ctorM ?_
  refine x_astore_n (ls' := [_, _, _, _]) rfl rfl rfl ?_
  refine x_iconst rfl ?_
  refine x_istore_n (ls' := [_, _, _, _]) rfl rfl rfl ?_
  refine ExS.refs refs0 ?_
  exact hlp.budget (by omega) (by omega)
theorem framed_nil {s t : State} {o : Outcome} {L : List Loc} {k n : Nat} (h : FrameEnd s o t L k n) (hL : ∀ q ∈ L, s.heap.size ≤ q.base) : Framed s o t [] k n := by
  obtain ⟨h1, h2, e1, e2, e3, e4, e5, e6⟩ := h
  refine ⟨h1, h2, e1, e2, e3, e4, e5, fun a c hc => ?_⟩
  obtain ⟨c', q1, q2, q3, q4⟩ := e6 a c hc
  refine ⟨c', q1, q2, q3, fun i _ => q4 i (fun hm => ?_)⟩
  have hlt : a < s.heap.size := (Array.getElem?_eq_some_iff.mp hc).1
  have := hL _ hm
  exact absurd this (Nat.not_le.mpr hlt)
theorem law_W {p : Program} {e : Env} {s : State} {m : MethodId} {below : List Frame} {meth : Method} {c : Code} (l : Launch) {b L : Nat} {xs : Nat → Int32} (hE : ExS (Scr L xs) 101 mi999 0 (entL [.float 0] 4) [] [] Z0 ZL ZR 600000 7302250 one)
    (hx : p.tables.exec = Jvm.exec) (hb : c.code = code) (hr : meth.sig.returnType = some .boolean) (hml : c.maxLocals = 4) (hown : s.vm.findClass RL = some m.cls) (hts : ∀ w ∈ lw_tbl, w.before #[Value.ref b] s = true) (hX : va_X b L xs s s.heap) (hbl : b < s.heap.size) (hlocks : meth.locks = false) (hgv : (Jvm.Cond.and given_1 narrow_1).before #[Value.ref b] s = true) (hnm : meth.name = "law") :
    W p l e room_1 s m #[Value.ref b] below meth c s.heap [] 0 0 (fun t => ∃ o, t.status = .running ∧ Ended t below o ∧ o = .returned (some (.int 1)) ∧ Framed s o t [] 600000 7302250) (entryFrame m ([Value.ref b] : List Value).toArray 4) := by
  obtain ⟨sa, D, dA, rfl, hK⟩ := start_KK hts hgv
  rw [lg_entry_eq]
  refine W_conseq (hE p l e room_1 s m #[Value.ref sa.1] below meth c s.heap [] 0 0 s.heap.size sa 0 D dA _ ⟨hx, hb, hr, hml, hown, fun w hw => hts w (gw_in w hw).1, hK, hlocks, hnm, by decide, by decide, ok999, hX, hbl⟩ ⟨rfl, fun k q hq => by simp [wsC] at hq⟩ va_S.rf (LR_ent s.heap.size sa [.float 0] (n := 4) (by decide)) (by decide) (by decide)) ?_
  rintro t ⟨o, q1, q2, ⟨⟨v, lay', VI', VL', VR', e1, e2, e3⟩, q3⟩, Lc, q4, q5⟩
  have e2 : v = some (.int 1) := e2
  subst e2
  exact ⟨o, q1, q2, e1, framed_nil q4 q5⟩
