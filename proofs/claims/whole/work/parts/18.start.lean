/-! ===== from the Statement's premises to the context of Ex ===== -/
theorem at_tbl {A : Array Value} {s : State} (hts : ∀ w ∈ lw_tbl, w.before A s = true) (i : Nat) {w : Cond} (h : lw_tbl[i]? = some w) : w.before A s = true := hts w (List.mem_of_getElem? h)
set_option maxRecDepth 20000 in
theorem start_nest {A : Array Value} {s : State} (hts : ∀ w ∈ lw_tbl, w.before A s = true) : ∀ q ∈ nls, va_Nw (.methodLinkNest (own q.1) q.2.1 (mi q.2.2).1 RX11) s := by
  intro q hq
  simp only [nls, List.mem_cons, List.not_mem_nil, or_false] at hq
  rcases hq with rfl | rfl | rfl
  · exact va_Nw.of rfl (at_tbl hts 593 rfl)
  · exact va_Nw.of rfl (at_tbl hts 909 rfl)
  · exact va_Nw.of rfl (at_tbl hts 1218 rfl)
set_option maxRecDepth 20000 in
theorem start_D {A : Array Value} {s : State} (hts : ∀ w ∈ lw_tbl, w.before A s = true) : ∃ D : va_G, ∀ (c : Nat) (q : vw_C), cls[c]? = some q → u_Kn s q.1 q.2.1 q.2.2 (D.1 c) (D.2 c) := by
  have hg : ∀ w ∈ gw, w.before A s = true := fun w hw => hts w (gw_in w hw).1
  have h : ∀ ci : Nat, ∃ q : ClassId × (Nat → Nat), ci < 13 → u_Kn s (cn ci) (fT ci) (cnf ci) q.1 q.2 := by
    intro ci
    by_cases hc : ci < 13
    · obtain ⟨c, i, hk⟩ := u_known (C := cn ci) (T := fT ci) (N := cnf ci) (n := cnf ci) hg (fun w hw => clW_gw ci hc w (List.mem_append_left _ hw)) (hg _ (clW_gw ci hc _ (List.mem_append_right _ List.mem_cons_self)))
      exact ⟨(c, i), fun _ => hk⟩
    · exact ⟨(0, fun _ => 0), fun h => absurd h hc⟩
  obtain ⟨f, hf⟩ := Classical.axiomOfChoice h
  refine ⟨(fun c => (f c).1, fun c => (f c).2), fun c q hq => ?_⟩
  have hc : c < 13 := (List.getElem?_eq_some_iff.mp hq).1
  have := hf c hc
  rw [cls_at c hc] at hq
  cases hq
  exact this
theorem start_prim {A : Array Value} {s : State} {ty : FieldType} (h : (Cond.arrayClass ty).before A s = true) : ∃ cA : ClassId, s.vm.findClass ("[" ++ ty.toString) = some cA ∧ ArrOfT s cA ty := by
  obtain ⟨cA, kA, comp, h1, h2, h3⟩ := Cond.arrayClass_spec h
  exact ⟨cA, h1, fun n z => ⟨fun k h => (by cases h), kA, h2, comp, h3⟩⟩
theorem start_over {s : State} {C : String} (h : va_AO C s) : ∃ cA : ClassId, ArrOfT s cA (.object C) ∧ va_RA s cA (.object C) := by
  obtain ⟨comp, cA, kA, h1, -, h3, h4, h5⟩ := Cond.arrayOver_spec h
  exact ⟨cA, fun n z => ⟨fun k h => (by cases h), kA, h3, comp, h4⟩, kA, comp, h3, h4, h1, h5⟩
def strT : Term := Term.string RX5 93
def strF : Term := Term.field strT "java/lang/String" "value" "[B"
set_option maxRecDepth 20000 in
theorem str_elems : ∀ j, j < wordsLn → Cond.eq (.elem strF (.int (Int32.ofNat j))) (.int (wordsBy.getD j 0)) ∈ flatC (Jvm.Cond.and given_1 narrow_1) := by decide +kernel
set_option maxRecDepth 20000 in
theorem start_KK {b : Nat} {s : State} (hts : ∀ w ∈ lw_tbl, w.before #[Value.ref b] s = true) (hgv : (Jvm.Cond.and given_1 narrow_1).before #[Value.ref b] s = true) : ∃ (sa : SA) (D : va_G) (dA : Nat → ClassId), sa.1 = b ∧ KK s.heap.size sa 0 D dA s := by
  have hs := flat_of_before _ hgv
  have hg : ∀ w ∈ gw, w.before #[Value.ref b] s = true := fun w hw => hts w (gw_in w hw).1
  have hA : ∀ a : Nat, a < s.heap.size → ¬ (fun q => s.heap.size ≤ q) a := fun a ha => Nat.not_le.mpr ha
  obtain ⟨D, hD⟩ := start_D hts
  have ao4 : va_AO RX10 s := va_AO.of (at_tbl hts 252 rfl)
  have ao5 : va_AO RX9 s := va_AO.of (at_tbl hts 161 rfl)
  obtain ⟨c0, n0, r0⟩ := start_prim (hg _ ac_int)
  obtain ⟨c1, n1, r1⟩ := start_prim (hg _ ac_byte)
  obtain ⟨c2, n2, r2⟩ := start_prim (hg _ ac_boolean)
  obtain ⟨c3, n3, r3⟩ := start_prim (hg _ ac_long)
  obtain ⟨c4, r4, n4⟩ := start_over ao4
  obtain ⟨c5, r5, n5⟩ := start_over ao5
  obtain ⟨adK, adV, hSt, hev⟩ := vk_Sof (args := #[Value.ref b]) (s := s) (N := 1) (tm := fun _ => strT) (len := [wordsLn]) (byt := [wordsBy]) (A := fun q => s.heap.size ≤ q) (fun i hi => by rw [show i = 0 by omega]; decide) (fun i hi => hs _ (by decide +kernel)) (fun i hi => hs _ (by decide +kernel)) (fun i hi => hs _ (by decide +kernel)) (fun i hi => by rw [show i = 0 by omega]; exact hs _ (by decide +kernel)) (fun i hi j hj => by
    have e : i = 0 := by omega
    subst e
    exact hs _ (str_elems j hj)) (fun i j hi hj hne => absurd (by omega) hne) hA
  have hR : vk_R RX5 93 wordsTx (adK 0) s := vk_R.of (A := #[Value.ref b]) (at_tbl hts 693 rfl) (hev 0 (by decide))
  have hZ : va_Z "java/lang/String" "COMPACT_STRINGS" "Z" (.int 1) (fun q => s.heap.size ≤ q) s s.heap := va_Zof (at_tbl hts 703 rfl) (at_tbl hts 128 rfl) (va_eqi (hs _ (by decide +kernel))) hA
  have hF : ∃ r : Option Nat, va_Z "jdk/internal/util/Preconditions" "SIOOBE_FORMATTER" "Ljava/util/function/BiFunction;" (va_rf r) (fun q => s.heap.size ≤ q) s s.heap := by
    rcases va_Zqof (A := fun q => s.heap.size ≤ q) (at_tbl hts 719 rfl) (at_tbl hts 130 rfl) (hs (Cond.isRef (.static "jdk/internal/util/Preconditions" "SIOOBE_FORMATTER" "Ljava/util/function/BiFunction;")) (by decide +kernel)) hA with h | ⟨t, h⟩
    · exact ⟨none, h⟩
    · exact ⟨some t, h⟩
  obtain ⟨r, hF⟩ := hF
  have hSt' : vk_S 1 [wordsLn] [wordsBy] (fun _ => adK 0) (fun _ => adV 0) (fun q => s.heap.size ≤ q) s s.heap := ⟨fun i hi => by rw [show i = 0 by omega]; exact hSt.1 0 (by decide), fun i j hi hj _ => by omega⟩
  refine ⟨(b, adK 0, adV 0, r), D, fun t => match t with | 0 => c0 | 1 => c1 | 2 => c2 | 3 => c3 | 4 => c4 | _ => c5, rfl, ⟨hD, fun k q hq => ?_⟩, ⟨hR, hSt', hZ, start_nest hts, ao4, ao5, hF⟩, Nat.le_refl _⟩
  match k, hq with
  | 0, hq => cases hq; exact ⟨r0, n0⟩
  | 1, hq => cases hq; exact ⟨r1, n1⟩
  | 2, hq => cases hq; exact ⟨r2, n2⟩
  | 3, hq => cases hq; exact ⟨r3, n3⟩
  | 4, hq => cases hq; exact ⟨r4, n4⟩
  | 5, hq => cases hq; exact ⟨r5, n5⟩
  | k + 6, hq => simp [tysL] at hq
