theorem dec' {M : MI} (hM : mOK M) {pc : Nat} {ins : Instr} {len nx x y : Nat} {v : Int32} {w : Int64} (h : lkp (mC M) pc = some (ins, len, nx, x, y, v, w)) : decode (mB M) pc = .ok (ins, len) ∧ nx = pc + len ∧ insOK (mO M) pc (ins, len, nx, x, y, v, w) = true := dec hM h
def lvC (base : Nat) (sa : SA) (ls : List Value) : List (Nat × Value) := ls.zipIdx.filterMap (fun q => bif isRA q.1 then none else some (q.2, mv base sa q.1))
theorem lvC_mem {base : Nat} {sa : SA} {ls : List Value} {i : Nat} {u : Value} : (i, u) ∈ lvC base sa ls ↔ ∃ v, ls[i]? = some v ∧ isRA v = false ∧ u = mv base sa v := by
  unfold lvC
  rw [List.mem_filterMap]
  constructor
  · rintro ⟨⟨v, j⟩, h1, h2⟩
    rw [List.mem_zipIdx_iff_getElem?] at h1
    cases hv : isRA v with
    | true => simp [hv] at h2
    | false =>
      simp only [hv, cond_false, Option.some.injEq, Prod.mk.injEq] at h2
      obtain ⟨rfl, rfl⟩ := h2
      exact ⟨v, h1, hv, rfl⟩
  · rintro ⟨v, h1, h2, rfl⟩
    exact ⟨(v, i), List.mem_zipIdx_iff_getElem?.mpr h1, by simp [h2]⟩
theorem LR.has {base : Nat} {sa : SA} {n : Nat} {lsC : Array Slot} {ls : List Value} (h : LR base sa n lsC ls) : lv_has lsC n (lvC base sa ls) := by
  refine ⟨h.1, h.2.1, fun q hq => ?_⟩
  obtain ⟨v, h1, h2, h3⟩ := lvC_mem.mp hq
  rw [h3]
  exact h.2.2 _ _ h1 h2
def clr (ls : List Value) (i : Nat) : List Value := match i with
  | 0 => ls
  | i + 1 => match ls[i]? with
    | some u => bif Nat.beq u.category 2 then ls.set i (.retAddr 9) else ls
    | none => ls
def st1 (ls : List Value) (i : Nat) (v : Value) : List Value := (clr ls i).set i v
def st2 (ls : List Value) (i : Nat) (v : Value) : List Value := ((clr ls i).set i v).set (i + 1) (.retAddr 8)
theorem clr_get {ls : List Value} {i j : Nat} {u : Value} (h : (clr ls i)[j]? = some u) (hu : isRA u = false) : ls[j]? = some u ∧ ¬ (j + 1 = i ∧ u.category = 2) := by
  cases i with
  | zero => exact ⟨h, fun q => by omega⟩
  | succ i =>
    cases hi : ls[i]? with
    | none =>
      simp only [clr, hi] at h
      exact ⟨h, fun q => by have : j = i := by omega
                            subst this; rw [hi] at h; cases h⟩
    | some z =>
      simp only [clr, hi] at h
      cases hb : Nat.beq z.category 2 with
      | false =>
        rw [hb] at h
        refine ⟨h, fun q => ?_⟩
        have : j = i := by omega
        subst this
        rw [cond_false, hi] at h
        cases h
        rw [q.2] at hb
        cases hb
      | true =>
        rw [hb, cond_true] at h
        by_cases hj : j = i
        · subst hj
          rw [List.getElem?_set] at h
          simp only [if_true] at h
          split at h
          · cases h; cases hu
          · cases h
        · rw [List.getElem?_set_ne (Ne.symm hj)] at h
          exact ⟨h, fun q => by omega⟩
theorem LR_st1 {base : Nat} {sa : SA} {n : Nat} {lsC : Array Slot} {ls : List Value} {i : Nat} {a : Value} (h : lv_has lsC n ((i, mv base sa a) :: (lvC base sa ls).filter (fun q => !(q.1 == i) && !(q.1 + 1 == i && q.2.category == 2)))) : LR base sa n lsC (st1 ls i a) := by
  refine ⟨h.1, h.2.1, fun j u hj hu => ?_⟩
  unfold st1 at hj
  by_cases e : j = i
  · subst e
    rw [List.getElem?_set] at hj
    simp only [if_true] at hj
    split at hj
    · cases hj
      exact h.2.2 (j, mv base sa a) List.mem_cons_self
    · cases hj
  · rw [List.getElem?_set_ne (Ne.symm e)] at hj
    obtain ⟨q1, q2⟩ := clr_get hj hu
    refine h.2.2 (j, mv base sa u) (List.mem_cons_of_mem _ (List.mem_filter.mpr ⟨lvC_mem.mpr ⟨u, q1, hu, rfl⟩, ?_⟩))
    have q3 : j + 1 = i → ¬ u.category = 2 := fun a b => q2 ⟨a, b⟩
    simp only [mv_cat, Bool.and_eq_true, Bool.not_eq_true', beq_eq_false_iff_ne, ne_eq, Bool.and_eq_false_iff]
    refine ⟨e, ?_⟩
    by_cases e2 : j + 1 = i
    · exact Or.inr (q3 e2)
    · exact Or.inl e2
theorem LR_st2 {base : Nat} {sa : SA} {n : Nat} {lsC : Array Slot} {ls : List Value} {i : Nat} {a : Value} (h : lv_has lsC n ((i, mv base sa a) :: (lvC base sa ls).filter (fun q => !(q.1 == i) && (!(q.1 == i + 1) && !(q.1 + 1 == i && q.2.category == 2))))) : LR base sa n lsC (st2 ls i a) := by
  refine ⟨h.1, h.2.1, fun j u hj hu => ?_⟩
  unfold st2 at hj
  by_cases e1 : j = i + 1
  · subst e1
    rw [List.getElem?_set] at hj
    simp only [if_true] at hj
    split at hj
    · cases hj; cases hu
    · cases hj
  · rw [List.getElem?_set_ne (Ne.symm e1)] at hj
    by_cases e : j = i
    · subst e
      rw [List.getElem?_set] at hj
      simp only [if_true] at hj
      split at hj
      · cases hj
        exact h.2.2 (j, mv base sa a) List.mem_cons_self
      · cases hj
    · rw [List.getElem?_set_ne (Ne.symm e)] at hj
      obtain ⟨q1, q2⟩ := clr_get hj hu
      refine h.2.2 (j, mv base sa u) (List.mem_cons_of_mem _ (List.mem_filter.mpr ⟨lvC_mem.mpr ⟨u, q1, hu, rfl⟩, ?_⟩))
      have q3 : j + 1 = i → ¬ u.category = 2 := fun a b => q2 ⟨a, b⟩
      simp only [mv_cat, Bool.and_eq_true, Bool.not_eq_true', beq_eq_false_iff_ne, ne_eq, Bool.and_eq_false_iff]
      refine ⟨e, e1, ?_⟩
      by_cases e2 : j + 1 = i
      · exact Or.inr (q3 e2)
      · exact Or.inl e2
section XR
variable {S : SPr} {d : Nat} {M : MI} {pc nx x y : Nat} {v : Int32} {w : Int64} {ls ls' st : List Value} {lay : HL} {VI : VIT} {VL : VLT} {VR : VRT} {bc bs : Nat} {P : Post}
theorem x_iconst {n : Int} (hc : lkp (mC M) pc = some (.iconst n, 1, nx, x, y, v, w)) (k : ExS S d M nx ls (.int v :: st) lay VI VL VR bc bs P) : ExS S d M pc ls st lay VI VL VR bc bs P := by
  intro p l e R s m args below meth c H locs cells slots base sa sv D dA lsC C hH hS hl h1 h2
  obtain ⟨g1, g2, g3⟩ := dec' C.2.2.2.2.2.2.2.2.2.2.2.1 hc
  subst g2
  simp only [insOK, decide_eq_true_eq] at g3
  exact lv_iconst C.1 C.2.1 g1 g3 (k p l e R s m args below meth c H locs cells slots base sa sv D dA lsC C hH hS hl h1 h2)
theorem x_bipush {n : Int} (hc : lkp (mC M) pc = some (.bipush n, 2, nx, x, y, v, w)) (k : ExS S d M nx ls (.int v :: st) lay VI VL VR bc bs P) : ExS S d M pc ls st lay VI VL VR bc bs P := by
  intro p l e R s m args below meth c H locs cells slots base sa sv D dA lsC C hH hS hl h1 h2
  obtain ⟨g1, g2, g3⟩ := dec' C.2.2.2.2.2.2.2.2.2.2.2.1 hc
  subst g2
  simp only [insOK, decide_eq_true_eq] at g3
  exact lv_bipush C.1 C.2.1 g1 g3 (k p l e R s m args below meth c H locs cells slots base sa sv D dA lsC C hH hS hl h1 h2)
theorem x_sipush {n : Int} (hc : lkp (mC M) pc = some (.sipush n, 3, nx, x, y, v, w)) (k : ExS S d M nx ls (.int v :: st) lay VI VL VR bc bs P) : ExS S d M pc ls st lay VI VL VR bc bs P := by
  intro p l e R s m args below meth c H locs cells slots base sa sv D dA lsC C hH hS hl h1 h2
  obtain ⟨g1, g2, g3⟩ := dec' C.2.2.2.2.2.2.2.2.2.2.2.1 hc
  subst g2
  simp only [insOK, decide_eq_true_eq] at g3
  exact lv_sipush C.1 C.2.1 g1 g3 (k p l e R s m args below meth c H locs cells slots base sa sv D dA lsC C hH hS hl h1 h2)
theorem x_lconst {n : Fin 2} (hc : lkp (mC M) pc = some (.lconst n, 1, nx, x, y, v, w)) (k : ExS S d M nx ls (.long w :: st) lay VI VL VR bc bs P) : ExS S d M pc ls st lay VI VL VR bc bs P := by
  intro p l e R s m args below meth c H locs cells slots base sa sv D dA lsC C hH hS hl h1 h2
  obtain ⟨g1, g2, g3⟩ := dec' C.2.2.2.2.2.2.2.2.2.2.2.1 hc
  subst g2
  simp only [insOK, decide_eq_true_eq] at g3
  exact lv_lconst C.1 C.2.1 g1 g3 (k p l e R s m args below meth c H locs cells slots base sa sv D dA lsC C hH hS hl h1 h2)
theorem x_null (hc : lkp (mC M) pc = some (.aconst_null, 1, nx, x, y, v, w)) (k : ExS S d M nx ls (.null :: st) lay VI VL VR bc bs P) : ExS S d M pc ls st lay VI VL VR bc bs P := by
  intro p l e R s m args below meth c H locs cells slots base sa sv D dA lsC C hH hS hl h1 h2
  obtain ⟨g1, g2, g3⟩ := dec' C.2.2.2.2.2.2.2.2.2.2.2.1 hc
  subst g2
  exact lv_null C.1 C.2.1 g1 (k p l e R s m args below meth c H locs cells slots base sa sv D dA lsC C hH hS hl h1 h2)
theorem x_iload_n {j : Fin 4} {a : Int32} (hc : lkp (mC M) pc = some (.iload_n j, 1, nx, x, y, v, w)) (hl0 : ls[x]? = some (.int a)) (k : ExS S d M nx ls (.int a :: st) lay VI VL VR bc bs P) : ExS S d M pc ls st lay VI VL VR bc bs P := by
  intro p l e R s m args below meth c H locs cells slots base sa sv D dA lsC C hH hS hl h1 h2
  obtain ⟨g1, g2, g3⟩ := dec' C.2.2.2.2.2.2.2.2.2.2.2.1 hc
  subst g2
  simp only [insOK, beq_iff_eq] at g3
  exact lv_iload_n C.1 C.2.1 g1 g3 (hl.2.2 _ _ hl0 rfl) (k p l e R s m args below meth c H locs cells slots base sa sv D dA lsC C hH hS hl h1 h2)
theorem x_iload {j : Nat} {a : Int32} (hc : lkp (mC M) pc = some (.iload j, 2, nx, x, y, v, w)) (hl0 : ls[x]? = some (.int a)) (k : ExS S d M nx ls (.int a :: st) lay VI VL VR bc bs P) : ExS S d M pc ls st lay VI VL VR bc bs P := by
  intro p l e R s m args below meth c H locs cells slots base sa sv D dA lsC C hH hS hl h1 h2
  obtain ⟨g1, g2, g3⟩ := dec' C.2.2.2.2.2.2.2.2.2.2.2.1 hc
  subst g2
  simp only [insOK, beq_iff_eq] at g3
  exact lv_iload C.1 C.2.1 (g3 ▸ g1) (hl.2.2 _ _ hl0 rfl) (k p l e R s m args below meth c H locs cells slots base sa sv D dA lsC C hH hS hl h1 h2)
theorem x_lload_n {j : Fin 4} {a : Int64} (hc : lkp (mC M) pc = some (.lload_n j, 1, nx, x, y, v, w)) (hl0 : ls[x]? = some (.long a)) (k : ExS S d M nx ls (.long a :: st) lay VI VL VR bc bs P) : ExS S d M pc ls st lay VI VL VR bc bs P := by
  intro p l e R s m args below meth c H locs cells slots base sa sv D dA lsC C hH hS hl h1 h2
  obtain ⟨g1, g2, g3⟩ := dec' C.2.2.2.2.2.2.2.2.2.2.2.1 hc
  subst g2
  simp only [insOK, beq_iff_eq] at g3
  exact lv_lload_n C.1 C.2.1 g1 g3 (hl.2.2 _ _ hl0 rfl) (k p l e R s m args below meth c H locs cells slots base sa sv D dA lsC C hH hS hl h1 h2)
theorem x_lload {j : Nat} {a : Int64} (hc : lkp (mC M) pc = some (.lload j, 2, nx, x, y, v, w)) (hl0 : ls[x]? = some (.long a)) (k : ExS S d M nx ls (.long a :: st) lay VI VL VR bc bs P) : ExS S d M pc ls st lay VI VL VR bc bs P := by
  intro p l e R s m args below meth c H locs cells slots base sa sv D dA lsC C hH hS hl h1 h2
  obtain ⟨g1, g2, g3⟩ := dec' C.2.2.2.2.2.2.2.2.2.2.2.1 hc
  subst g2
  simp only [insOK, beq_iff_eq] at g3
  exact lv_lload C.1 C.2.1 (g3 ▸ g1) (hl.2.2 _ _ hl0 rfl) (k p l e R s m args below meth c H locs cells slots base sa sv D dA lsC C hH hS hl h1 h2)
theorem x_aload_n {j : Fin 4} {a : Nat} (hc : lkp (mC M) pc = some (.aload_n j, 1, nx, x, y, v, w)) (hl0 : ls[x]? = some (.ref a)) (k : ExS S d M nx ls (.ref a :: st) lay VI VL VR bc bs P) : ExS S d M pc ls st lay VI VL VR bc bs P := by
  intro p l e R s m args below meth c H locs cells slots base sa sv D dA lsC C hH hS hl h1 h2
  obtain ⟨g1, g2, g3⟩ := dec' C.2.2.2.2.2.2.2.2.2.2.2.1 hc
  subst g2
  simp only [insOK, beq_iff_eq] at g3
  exact lv_aload_n C.1 C.2.1 g1 g3 (hl.2.2 _ _ hl0 rfl) (k p l e R s m args below meth c H locs cells slots base sa sv D dA lsC C hH hS hl h1 h2)
theorem x_aload {j : Nat} {a : Nat} (hc : lkp (mC M) pc = some (.aload j, 2, nx, x, y, v, w)) (hl0 : ls[x]? = some (.ref a)) (k : ExS S d M nx ls (.ref a :: st) lay VI VL VR bc bs P) : ExS S d M pc ls st lay VI VL VR bc bs P := by
  intro p l e R s m args below meth c H locs cells slots base sa sv D dA lsC C hH hS hl h1 h2
  obtain ⟨g1, g2, g3⟩ := dec' C.2.2.2.2.2.2.2.2.2.2.2.1 hc
  subst g2
  simp only [insOK, beq_iff_eq] at g3
  exact lv_aload C.1 C.2.1 (g3 ▸ g1) (hl.2.2 _ _ hl0 rfl) (k p l e R s m args below meth c H locs cells slots base sa sv D dA lsC C hH hS hl h1 h2)
theorem x_aload_nN {j : Fin 4} (hc : lkp (mC M) pc = some (.aload_n j, 1, nx, x, y, v, w)) (hl0 : ls[x]? = some .null) (k : ExS S d M nx ls (.null :: st) lay VI VL VR bc bs P) : ExS S d M pc ls st lay VI VL VR bc bs P := by
  intro p l e R s m args below meth c H locs cells slots base sa sv D dA lsC C hH hS hl h1 h2
  obtain ⟨g1, g2, g3⟩ := dec' C.2.2.2.2.2.2.2.2.2.2.2.1 hc
  subst g2
  simp only [insOK, beq_iff_eq] at g3
  have hl1 := hl.2.2 _ _ hl0 rfl
  have kk := (k p l e R s m args below meth c H locs cells slots base sa sv D dA lsC C hH hS hl h1 h2)
  have hx := C.1
  have hb := C.2.1
  intro T hT X
  obtain ⟨t, a1, b1⟩ := kk T hT X
  refine ⟨t, ?_, b1⟩
  subst g3
  jvm_step X.here [X.here.top, hx, hb, g1, hl1, mv]
  exact ⟨rfl, a1⟩
theorem x_aloadN {j : Nat} (hc : lkp (mC M) pc = some (.aload j, 2, nx, x, y, v, w)) (hl0 : ls[x]? = some .null) (k : ExS S d M nx ls (.null :: st) lay VI VL VR bc bs P) : ExS S d M pc ls st lay VI VL VR bc bs P := by
  intro p l e R s m args below meth c H locs cells slots base sa sv D dA lsC C hH hS hl h1 h2
  obtain ⟨g1, g2, g3⟩ := dec' C.2.2.2.2.2.2.2.2.2.2.2.1 hc
  subst g2
  simp only [insOK, beq_iff_eq] at g3
  have hl1 := hl.2.2 _ _ hl0 rfl
  have kk := (k p l e R s m args below meth c H locs cells slots base sa sv D dA lsC C hH hS hl h1 h2)
  have hx := C.1
  have hb := C.2.1
  intro T hT X
  obtain ⟨t, a1, b1⟩ := kk T hT X
  refine ⟨t, ?_, b1⟩
  subst g3
  jvm_step X.here [X.here.top, hx, hb, g1, hl1, mv]
  exact ⟨rfl, a1⟩
theorem x_istore_n {j : Fin 4} (hc : lkp (mC M) pc = some (.istore_n j, 1, nx, x, y, v, w)) {a : Int32} (hs : st1 ls x (.int a) = ls') (hn : Nat.blt x (mL M) = true) (k : ExS S d M nx ls' st lay VI VL VR bc bs P) : ExS S d M pc ls (.int a :: st) lay VI VL VR bc bs P := by
  intro p l e R s m args below meth c H locs cells slots base sa sv D dA lsC C hH hS hl h1 h2
  obtain ⟨g1, g2, g3⟩ := dec' C.2.2.2.2.2.2.2.2.2.2.2.1 hc
  subst g2
  simp only [insOK, beq_iff_eq] at g3
  subst hs
  exact lv_istore_n C.1 C.2.1 g1 g3 hl.has (by simpa using hn) rfl (fun lsC h => k p l e R s m args below meth c H locs cells slots base sa sv D dA lsC C hH hS (LR_st1 h) h1 h2)
theorem x_istore {j : Nat} (hc : lkp (mC M) pc = some (.istore j, 2, nx, x, y, v, w)) {a : Int32} (hs : st1 ls x (.int a) = ls') (hn : Nat.blt x (mL M) = true) (k : ExS S d M nx ls' st lay VI VL VR bc bs P) : ExS S d M pc ls (.int a :: st) lay VI VL VR bc bs P := by
  intro p l e R s m args below meth c H locs cells slots base sa sv D dA lsC C hH hS hl h1 h2
  obtain ⟨g1, g2, g3⟩ := dec' C.2.2.2.2.2.2.2.2.2.2.2.1 hc
  subst g2
  simp only [insOK, beq_iff_eq] at g3
  subst hs
  exact lv_istore C.1 C.2.1 (g3 ▸ g1) hl.has (by simpa using hn) rfl (fun lsC h => k p l e R s m args below meth c H locs cells slots base sa sv D dA lsC C hH hS (LR_st1 h) h1 h2)
theorem x_lstore_n {j : Fin 4} (hc : lkp (mC M) pc = some (.lstore_n j, 1, nx, x, y, v, w)) {a : Int64} (hs : st2 ls x (.long a) = ls') (hn : Nat.blt (x + 1) (mL M) = true) (k : ExS S d M nx ls' st lay VI VL VR bc bs P) : ExS S d M pc ls (.long a :: st) lay VI VL VR bc bs P := by
  intro p l e R s m args below meth c H locs cells slots base sa sv D dA lsC C hH hS hl h1 h2
  obtain ⟨g1, g2, g3⟩ := dec' C.2.2.2.2.2.2.2.2.2.2.2.1 hc
  subst g2
  simp only [insOK, beq_iff_eq] at g3
  subst hs
  exact lv_lstore_n C.1 C.2.1 g1 g3 hl.has (by simpa using hn) rfl (fun lsC h => k p l e R s m args below meth c H locs cells slots base sa sv D dA lsC C hH hS (LR_st2 h) h1 h2)
theorem x_lstore {j : Nat} (hc : lkp (mC M) pc = some (.lstore j, 2, nx, x, y, v, w)) {a : Int64} (hs : st2 ls x (.long a) = ls') (hn : Nat.blt (x + 1) (mL M) = true) (k : ExS S d M nx ls' st lay VI VL VR bc bs P) : ExS S d M pc ls (.long a :: st) lay VI VL VR bc bs P := by
  intro p l e R s m args below meth c H locs cells slots base sa sv D dA lsC C hH hS hl h1 h2
  obtain ⟨g1, g2, g3⟩ := dec' C.2.2.2.2.2.2.2.2.2.2.2.1 hc
  subst g2
  simp only [insOK, beq_iff_eq] at g3
  subst hs
  exact lv_lstore C.1 C.2.1 (g3 ▸ g1) hl.has (by simpa using hn) rfl (fun lsC h => k p l e R s m args below meth c H locs cells slots base sa sv D dA lsC C hH hS (LR_st2 h) h1 h2)
theorem x_astore_n {j : Fin 4} (hc : lkp (mC M) pc = some (.astore_n j, 1, nx, x, y, v, w)) {a : Nat} (hs : st1 ls x (.ref a) = ls') (hn : Nat.blt x (mL M) = true) (k : ExS S d M nx ls' st lay VI VL VR bc bs P) : ExS S d M pc ls (.ref a :: st) lay VI VL VR bc bs P := by
  intro p l e R s m args below meth c H locs cells slots base sa sv D dA lsC C hH hS hl h1 h2
  obtain ⟨g1, g2, g3⟩ := dec' C.2.2.2.2.2.2.2.2.2.2.2.1 hc
  subst g2
  simp only [insOK, beq_iff_eq] at g3
  subst hs
  exact lv_astore_n C.1 C.2.1 g1 g3 hl.has (by simpa using hn) rfl (fun lsC h => k p l e R s m args below meth c H locs cells slots base sa sv D dA lsC C hH hS (LR_st1 h) h1 h2)
theorem x_astore {j : Nat} (hc : lkp (mC M) pc = some (.astore j, 2, nx, x, y, v, w)) {a : Nat} (hs : st1 ls x (.ref a) = ls') (hn : Nat.blt x (mL M) = true) (k : ExS S d M nx ls' st lay VI VL VR bc bs P) : ExS S d M pc ls (.ref a :: st) lay VI VL VR bc bs P := by
  intro p l e R s m args below meth c H locs cells slots base sa sv D dA lsC C hH hS hl h1 h2
  obtain ⟨g1, g2, g3⟩ := dec' C.2.2.2.2.2.2.2.2.2.2.2.1 hc
  subst g2
  simp only [insOK, beq_iff_eq] at g3
  subst hs
  exact lv_astore C.1 C.2.1 (g3 ▸ g1) hl.has (by simpa using hn) rfl (fun lsC h => k p l e R s m args below meth c H locs cells slots base sa sv D dA lsC C hH hS (LR_st1 h) h1 h2)
theorem x_iinc {j : Nat} {n : Int} (hc : lkp (mC M) pc = some (.iinc j n, 3, nx, x, y, v, w)) {a : Int32} (hl0 : ls[x]? = some (.int a)) (hs : st1 ls x (.int (a + v)) = ls') (hn : Nat.blt x (mL M) = true) (k : ExS S d M nx ls' st lay VI VL VR bc bs P) : ExS S d M pc ls st lay VI VL VR bc bs P := by
  intro p l e R s m args below meth c H locs cells slots base sa sv D dA lsC C hH hS hl h1 h2
  obtain ⟨g1, g2, g3⟩ := dec' C.2.2.2.2.2.2.2.2.2.2.2.1 hc
  subst g2
  simp only [insOK, Bool.and_eq_true, beq_iff_eq, decide_eq_true_eq] at g3
  obtain ⟨g3, g4⟩ := g3
  subst hs
  obtain ⟨kx, hkx⟩ := List.getElem?_of_mem (lvC_mem (base := base) (sa := sa).mpr ⟨_, hl0, rfl, rfl⟩)
  exact lv_iinc C.1 C.2.1 (g3 ▸ g1) hl.has hkx (by rw [g4]) (by simpa using hn) rfl (fun lsC h => k p l e R s m args below meth c H locs cells slots base sa sv D dA lsC C hH hS (LR_st1 h) h1 h2)
theorem x_iadd {a b : Int32} (hc : lkp (mC M) pc = some (.iadd, 1, nx, x, y, v, w)) (k : ExS S d M nx ls (.int (a + b) :: st) lay VI VL VR bc bs P) : ExS S d M pc ls (.int b :: .int a :: st) lay VI VL VR bc bs P := by
  intro p l e R s m args below meth c H locs cells slots base sa sv D dA lsC C hH hS hl h1 h2
  obtain ⟨g1, g2, g3⟩ := dec' C.2.2.2.2.2.2.2.2.2.2.2.1 hc
  subst g2
  exact lv_iadd C.1 C.2.1 g1 (k p l e R s m args below meth c H locs cells slots base sa sv D dA lsC C hH hS hl h1 h2)
theorem x_isub {a b : Int32} (hc : lkp (mC M) pc = some (.isub, 1, nx, x, y, v, w)) (k : ExS S d M nx ls (.int (a - b) :: st) lay VI VL VR bc bs P) : ExS S d M pc ls (.int b :: .int a :: st) lay VI VL VR bc bs P := by
  intro p l e R s m args below meth c H locs cells slots base sa sv D dA lsC C hH hS hl h1 h2
  obtain ⟨g1, g2, g3⟩ := dec' C.2.2.2.2.2.2.2.2.2.2.2.1 hc
  subst g2
  exact lv_isub C.1 C.2.1 g1 (k p l e R s m args below meth c H locs cells slots base sa sv D dA lsC C hH hS hl h1 h2)
theorem x_imul {a b : Int32} (hc : lkp (mC M) pc = some (.imul, 1, nx, x, y, v, w)) (k : ExS S d M nx ls (.int (a * b) :: st) lay VI VL VR bc bs P) : ExS S d M pc ls (.int b :: .int a :: st) lay VI VL VR bc bs P := by
  intro p l e R s m args below meth c H locs cells slots base sa sv D dA lsC C hH hS hl h1 h2
  obtain ⟨g1, g2, g3⟩ := dec' C.2.2.2.2.2.2.2.2.2.2.2.1 hc
  subst g2
  exact lv_imul C.1 C.2.1 g1 (k p l e R s m args below meth c H locs cells slots base sa sv D dA lsC C hH hS hl h1 h2)
theorem x_iand {a b : Int32} (hc : lkp (mC M) pc = some (.iand, 1, nx, x, y, v, w)) (k : ExS S d M nx ls (.int (a &&& b) :: st) lay VI VL VR bc bs P) : ExS S d M pc ls (.int b :: .int a :: st) lay VI VL VR bc bs P := by
  intro p l e R s m args below meth c H locs cells slots base sa sv D dA lsC C hH hS hl h1 h2
  obtain ⟨g1, g2, g3⟩ := dec' C.2.2.2.2.2.2.2.2.2.2.2.1 hc
  subst g2
  exact lv_iand C.1 C.2.1 g1 (k p l e R s m args below meth c H locs cells slots base sa sv D dA lsC C hH hS hl h1 h2)
theorem x_ior {a b : Int32} (hc : lkp (mC M) pc = some (.ior, 1, nx, x, y, v, w)) (k : ExS S d M nx ls (.int (a ||| b) :: st) lay VI VL VR bc bs P) : ExS S d M pc ls (.int b :: .int a :: st) lay VI VL VR bc bs P := by
  intro p l e R s m args below meth c H locs cells slots base sa sv D dA lsC C hH hS hl h1 h2
  obtain ⟨g1, g2, g3⟩ := dec' C.2.2.2.2.2.2.2.2.2.2.2.1 hc
  subst g2
  exact lv_ior C.1 C.2.1 g1 (k p l e R s m args below meth c H locs cells slots base sa sv D dA lsC C hH hS hl h1 h2)
theorem x_ixor {a b : Int32} (hc : lkp (mC M) pc = some (.ixor, 1, nx, x, y, v, w)) (k : ExS S d M nx ls (.int (a ^^^ b) :: st) lay VI VL VR bc bs P) : ExS S d M pc ls (.int b :: .int a :: st) lay VI VL VR bc bs P := by
  intro p l e R s m args below meth c H locs cells slots base sa sv D dA lsC C hH hS hl h1 h2
  obtain ⟨g1, g2, g3⟩ := dec' C.2.2.2.2.2.2.2.2.2.2.2.1 hc
  subst g2
  exact lv_ixor C.1 C.2.1 g1 (k p l e R s m args below meth c H locs cells slots base sa sv D dA lsC C hH hS hl h1 h2)
theorem x_ishl {a b : Int32} (hc : lkp (mC M) pc = some (.ishl, 1, nx, x, y, v, w)) (k : ExS S d M nx ls (.int (a <<< (b &&& 31)) :: st) lay VI VL VR bc bs P) : ExS S d M pc ls (.int b :: .int a :: st) lay VI VL VR bc bs P := by
  intro p l e R s m args below meth c H locs cells slots base sa sv D dA lsC C hH hS hl h1 h2
  obtain ⟨g1, g2, g3⟩ := dec' C.2.2.2.2.2.2.2.2.2.2.2.1 hc
  subst g2
  exact lv_ishl C.1 C.2.1 g1 (k p l e R s m args below meth c H locs cells slots base sa sv D dA lsC C hH hS hl h1 h2)
theorem x_ishr {a b : Int32} (hc : lkp (mC M) pc = some (.ishr, 1, nx, x, y, v, w)) (k : ExS S d M nx ls (.int (a >>> (b &&& 31)) :: st) lay VI VL VR bc bs P) : ExS S d M pc ls (.int b :: .int a :: st) lay VI VL VR bc bs P := by
  intro p l e R s m args below meth c H locs cells slots base sa sv D dA lsC C hH hS hl h1 h2
  obtain ⟨g1, g2, g3⟩ := dec' C.2.2.2.2.2.2.2.2.2.2.2.1 hc
  subst g2
  exact lv_ishr C.1 C.2.1 g1 (k p l e R s m args below meth c H locs cells slots base sa sv D dA lsC C hH hS hl h1 h2)
theorem x_iushr {a b : Int32} (hc : lkp (mC M) pc = some (.iushr, 1, nx, x, y, v, w)) (k : ExS S d M nx ls (.int ((a.toUInt32 >>> (b.toUInt32 &&& Int32.toUInt32 31)).toInt32) :: st) lay VI VL VR bc bs P) : ExS S d M pc ls (.int b :: .int a :: st) lay VI VL VR bc bs P := by
  intro p l e R s m args below meth c H locs cells slots base sa sv D dA lsC C hH hS hl h1 h2
  obtain ⟨g1, g2, g3⟩ := dec' C.2.2.2.2.2.2.2.2.2.2.2.1 hc
  subst g2
  exact lv_iushr C.1 C.2.1 g1 rfl (k p l e R s m args below meth c H locs cells slots base sa sv D dA lsC C hH hS hl h1 h2)
theorem x_idiv {a b : Int32} (hc : lkp (mC M) pc = some (.idiv, 1, nx, x, y, v, w)) (hb0 : ¬ b = 0) (k : ExS S d M nx ls (.int (a / b) :: st) lay VI VL VR bc bs P) : ExS S d M pc ls (.int b :: .int a :: st) lay VI VL VR bc bs P := by
  intro p l e R s m args below meth c H locs cells slots base sa sv D dA lsC C hH hS hl h1 h2
  obtain ⟨g1, g2, g3⟩ := dec' C.2.2.2.2.2.2.2.2.2.2.2.1 hc
  subst g2
  exact lv_idiv C.1 C.2.1 g1 hb0 (k p l e R s m args below meth c H locs cells slots base sa sv D dA lsC C hH hS hl h1 h2)
theorem x_irem {a b : Int32} (hc : lkp (mC M) pc = some (.irem, 1, nx, x, y, v, w)) (hb0 : ¬ b = 0) (k : ExS S d M nx ls (.int (a - a / b * b) :: st) lay VI VL VR bc bs P) : ExS S d M pc ls (.int b :: .int a :: st) lay VI VL VR bc bs P := by
  intro p l e R s m args below meth c H locs cells slots base sa sv D dA lsC C hH hS hl h1 h2
  obtain ⟨g1, g2, g3⟩ := dec' C.2.2.2.2.2.2.2.2.2.2.2.1 hc
  subst g2
  exact lv_irem C.1 C.2.1 g1 hb0 (k p l e R s m args below meth c H locs cells slots base sa sv D dA lsC C hH hS hl h1 h2)
theorem x_ineg {a : Int32} (hc : lkp (mC M) pc = some (.ineg, 1, nx, x, y, v, w)) (k : ExS S d M nx ls (.int (-a) :: st) lay VI VL VR bc bs P) : ExS S d M pc ls (.int a :: st) lay VI VL VR bc bs P := by
  intro p l e R s m args below meth c H locs cells slots base sa sv D dA lsC C hH hS hl h1 h2
  obtain ⟨g1, g2, g3⟩ := dec' C.2.2.2.2.2.2.2.2.2.2.2.1 hc
  subst g2
  exact lv_ineg C.1 C.2.1 g1 (k p l e R s m args below meth c H locs cells slots base sa sv D dA lsC C hH hS hl h1 h2)
theorem x_ladd {a b : Int64} (hc : lkp (mC M) pc = some (.ladd, 1, nx, x, y, v, w)) (k : ExS S d M nx ls (.long (a + b) :: st) lay VI VL VR bc bs P) : ExS S d M pc ls (.long b :: .long a :: st) lay VI VL VR bc bs P := by
  intro p l e R s m args below meth c H locs cells slots base sa sv D dA lsC C hH hS hl h1 h2
  obtain ⟨g1, g2, g3⟩ := dec' C.2.2.2.2.2.2.2.2.2.2.2.1 hc
  subst g2
  exact lv_ladd C.1 C.2.1 g1 (k p l e R s m args below meth c H locs cells slots base sa sv D dA lsC C hH hS hl h1 h2)
theorem x_lsub {a b : Int64} (hc : lkp (mC M) pc = some (.lsub, 1, nx, x, y, v, w)) (k : ExS S d M nx ls (.long (a - b) :: st) lay VI VL VR bc bs P) : ExS S d M pc ls (.long b :: .long a :: st) lay VI VL VR bc bs P := by
  intro p l e R s m args below meth c H locs cells slots base sa sv D dA lsC C hH hS hl h1 h2
  obtain ⟨g1, g2, g3⟩ := dec' C.2.2.2.2.2.2.2.2.2.2.2.1 hc
  subst g2
  exact lv_lsub C.1 C.2.1 g1 (k p l e R s m args below meth c H locs cells slots base sa sv D dA lsC C hH hS hl h1 h2)
theorem x_lmul {a b : Int64} (hc : lkp (mC M) pc = some (.lmul, 1, nx, x, y, v, w)) (k : ExS S d M nx ls (.long (a * b) :: st) lay VI VL VR bc bs P) : ExS S d M pc ls (.long b :: .long a :: st) lay VI VL VR bc bs P := by
  intro p l e R s m args below meth c H locs cells slots base sa sv D dA lsC C hH hS hl h1 h2
  obtain ⟨g1, g2, g3⟩ := dec' C.2.2.2.2.2.2.2.2.2.2.2.1 hc
  subst g2
  exact lv_lmul C.1 C.2.1 g1 (k p l e R s m args below meth c H locs cells slots base sa sv D dA lsC C hH hS hl h1 h2)
theorem x_ldiv {a b : Int64} (hc : lkp (mC M) pc = some (.ldiv, 1, nx, x, y, v, w)) (hb0 : ¬ b = 0) (k : ExS S d M nx ls (.long (a / b) :: st) lay VI VL VR bc bs P) : ExS S d M pc ls (.long b :: .long a :: st) lay VI VL VR bc bs P := by
  intro p l e R s m args below meth c H locs cells slots base sa sv D dA lsC C hH hS hl h1 h2
  obtain ⟨g1, g2, g3⟩ := dec' C.2.2.2.2.2.2.2.2.2.2.2.1 hc
  subst g2
  exact lv_ldiv C.1 C.2.1 g1 hb0 (k p l e R s m args below meth c H locs cells slots base sa sv D dA lsC C hH hS hl h1 h2)
theorem x_lrem {a b : Int64} (hc : lkp (mC M) pc = some (.lrem, 1, nx, x, y, v, w)) (hb0 : ¬ b = 0) (k : ExS S d M nx ls (.long (a - a / b * b) :: st) lay VI VL VR bc bs P) : ExS S d M pc ls (.long b :: .long a :: st) lay VI VL VR bc bs P := by
  intro p l e R s m args below meth c H locs cells slots base sa sv D dA lsC C hH hS hl h1 h2
  obtain ⟨g1, g2, g3⟩ := dec' C.2.2.2.2.2.2.2.2.2.2.2.1 hc
  subst g2
  exact lv_lrem C.1 C.2.1 g1 hb0 (k p l e R s m args below meth c H locs cells slots base sa sv D dA lsC C hH hS hl h1 h2)
theorem x_lcmp {a b : Int64} (hc : lkp (mC M) pc = some (.lcmp, 1, nx, x, y, v, w)) (k : ExS S d M nx ls (.int (lg_cmp a b) :: st) lay VI VL VR bc bs P) : ExS S d M pc ls (.long b :: .long a :: st) lay VI VL VR bc bs P := by
  intro p l e R s m args below meth c H locs cells slots base sa sv D dA lsC C hH hS hl h1 h2
  obtain ⟨g1, g2, g3⟩ := dec' C.2.2.2.2.2.2.2.2.2.2.2.1 hc
  subst g2
  exact W.lcmp C.1 C.2.1 g1 (k p l e R s m args below meth c H locs cells slots base sa sv D dA lsC C hH hS hl h1 h2)
theorem x_i2l {a : Int32} (hc : lkp (mC M) pc = some (.i2l, 1, nx, x, y, v, w)) (k : ExS S d M nx ls (.long a.toInt64 :: st) lay VI VL VR bc bs P) : ExS S d M pc ls (.int a :: st) lay VI VL VR bc bs P := by
  intro p l e R s m args below meth c H locs cells slots base sa sv D dA lsC C hH hS hl h1 h2
  obtain ⟨g1, g2, g3⟩ := dec' C.2.2.2.2.2.2.2.2.2.2.2.1 hc
  subst g2
  exact lv_i2l C.1 C.2.1 g1 rfl (k p l e R s m args below meth c H locs cells slots base sa sv D dA lsC C hH hS hl h1 h2)
theorem x_l2i {a : Int64} (hc : lkp (mC M) pc = some (.l2i, 1, nx, x, y, v, w)) (k : ExS S d M nx ls (.int a.toInt32 :: st) lay VI VL VR bc bs P) : ExS S d M pc ls (.long a :: st) lay VI VL VR bc bs P := by
  intro p l e R s m args below meth c H locs cells slots base sa sv D dA lsC C hH hS hl h1 h2
  obtain ⟨g1, g2, g3⟩ := dec' C.2.2.2.2.2.2.2.2.2.2.2.1 hc
  subst g2
  exact lv_l2i C.1 C.2.1 g1 rfl (k p l e R s m args below meth c H locs cells slots base sa sv D dA lsC C hH hS hl h1 h2)
theorem x_i2b {a : Int32} (hc : lkp (mC M) pc = some (.i2b, 1, nx, x, y, v, w)) (k : ExS S d M nx ls (.int a.toInt8.toInt32 :: st) lay VI VL VR bc bs P) : ExS S d M pc ls (.int a :: st) lay VI VL VR bc bs P := by
  intro p l e R s m args below meth c H locs cells slots base sa sv D dA lsC C hH hS hl h1 h2
  obtain ⟨g1, g2, g3⟩ := dec' C.2.2.2.2.2.2.2.2.2.2.2.1 hc
  subst g2
  exact lv_i2b C.1 C.2.1 g1 rfl (k p l e R s m args below meth c H locs cells slots base sa sv D dA lsC C hH hS hl h1 h2)
theorem x_dup {a : Value} (hc : lkp (mC M) pc = some (.dup, 1, nx, x, y, v, w)) (ha : Nat.beq a.category 1 = true) (k : ExS S d M nx ls (a :: a :: st) lay VI VL VR bc bs P) : ExS S d M pc ls (a :: st) lay VI VL VR bc bs P := by
  intro p l e R s m args below meth c H locs cells slots base sa sv D dA lsC C hH hS hl h1 h2
  obtain ⟨g1, g2, g3⟩ := dec' C.2.2.2.2.2.2.2.2.2.2.2.1 hc
  subst g2
  exact lv_dup C.1 C.2.1 g1 (by rw [mv_cat]; exact Nat.eq_of_beq_eq_true ha) (k p l e R s m args below meth c H locs cells slots base sa sv D dA lsC C hH hS hl h1 h2)
theorem x_pop {a : Value} (hc : lkp (mC M) pc = some (.pop, 1, nx, x, y, v, w)) (ha : Nat.beq a.category 1 = true) (k : ExS S d M nx ls st lay VI VL VR bc bs P) : ExS S d M pc ls (a :: st) lay VI VL VR bc bs P := by
  intro p l e R s m args below meth c H locs cells slots base sa sv D dA lsC C hH hS hl h1 h2
  obtain ⟨g1, g2, g3⟩ := dec' C.2.2.2.2.2.2.2.2.2.2.2.1 hc
  subst g2
  exact lv_pop C.1 C.2.1 g1 (by rw [mv_cat]; exact Nat.eq_of_beq_eq_true ha) (k p l e R s m args below meth c H locs cells slots base sa sv D dA lsC C hH hS hl h1 h2)
theorem x_dup2 {a b : Value} (hc : lkp (mC M) pc = some (.dup2, 1, nx, x, y, v, w)) (ha : Nat.beq a.category 1 = true) (hb0 : Nat.beq b.category 1 = true) (k : ExS S d M nx ls (a :: b :: a :: b :: st) lay VI VL VR bc bs P) : ExS S d M pc ls (a :: b :: st) lay VI VL VR bc bs P := by
  intro p l e R s m args below meth c H locs cells slots base sa sv D dA lsC C hH hS hl h1 h2
  obtain ⟨g1, g2, g3⟩ := dec' C.2.2.2.2.2.2.2.2.2.2.2.1 hc
  subst g2
  exact lv_dup2_11 C.1 C.2.1 g1 (by rw [mv_cat]; exact Nat.eq_of_beq_eq_true ha) (by rw [mv_cat]; exact Nat.eq_of_beq_eq_true hb0) (k p l e R s m args below meth c H locs cells slots base sa sv D dA lsC C hH hS hl h1 h2)
theorem x_dup2l {a : Int64} (hc : lkp (mC M) pc = some (.dup2, 1, nx, x, y, v, w)) (k : ExS S d M nx ls (.long a :: .long a :: st) lay VI VL VR bc bs P) : ExS S d M pc ls (.long a :: st) lay VI VL VR bc bs P := by
  intro p l e R s m args below meth c H locs cells slots base sa sv D dA lsC C hH hS hl h1 h2
  obtain ⟨g1, g2, g3⟩ := dec' C.2.2.2.2.2.2.2.2.2.2.2.1 hc
  subst g2
  exact lv_dup2_2 C.1 C.2.1 g1 rfl (k p l e R s m args below meth c H locs cells slots base sa sv D dA lsC C hH hS hl h1 h2)
theorem x_if_eq {off : Int} (hc : lkp (mC M) pc = some (.ifCond .eq off, 3, nx, x, y, v, w)) {a : Int32} (kt : a = 0 → ExS S d M x ls st lay VI VL VR bc bs P) (kf : ¬ a = 0 → ExS S d M nx ls st lay VI VL VR bc bs P) : ExS S d M pc ls (.int a :: st) lay VI VL VR bc bs P := by
  intro p l e R s m args below meth c H locs cells slots base sa sv D dA lsC C hH hS hl h1 h2
  obtain ⟨g1, g2, g3⟩ := dec' C.2.2.2.2.2.2.2.2.2.2.2.1 hc
  subst g2
  simp only [insOK, decide_eq_true_eq] at g3
  exact lv_if_eq C.1 C.2.1 g1 g3 (fun hh => kt hh p l e R s m args below meth c H locs cells slots base sa sv D dA lsC C hH hS hl h1 h2) (fun hh => kf hh p l e R s m args below meth c H locs cells slots base sa sv D dA lsC C hH hS hl h1 h2)
theorem x_if_ne {off : Int} (hc : lkp (mC M) pc = some (.ifCond .ne off, 3, nx, x, y, v, w)) {a : Int32} (kt : ¬ a = 0 → ExS S d M x ls st lay VI VL VR bc bs P) (kf : a = 0 → ExS S d M nx ls st lay VI VL VR bc bs P) : ExS S d M pc ls (.int a :: st) lay VI VL VR bc bs P := by
  intro p l e R s m args below meth c H locs cells slots base sa sv D dA lsC C hH hS hl h1 h2
  obtain ⟨g1, g2, g3⟩ := dec' C.2.2.2.2.2.2.2.2.2.2.2.1 hc
  subst g2
  simp only [insOK, decide_eq_true_eq] at g3
  exact lv_if_ne C.1 C.2.1 g1 g3 (fun hh => kt hh p l e R s m args below meth c H locs cells slots base sa sv D dA lsC C hH hS hl h1 h2) (fun hh => kf hh p l e R s m args below meth c H locs cells slots base sa sv D dA lsC C hH hS hl h1 h2)
theorem x_if_lt {off : Int} (hc : lkp (mC M) pc = some (.ifCond .lt off, 3, nx, x, y, v, w)) {a : Int32} (kt : a < 0 → ExS S d M x ls st lay VI VL VR bc bs P) (kf : ¬ a < 0 → ExS S d M nx ls st lay VI VL VR bc bs P) : ExS S d M pc ls (.int a :: st) lay VI VL VR bc bs P := by
  intro p l e R s m args below meth c H locs cells slots base sa sv D dA lsC C hH hS hl h1 h2
  obtain ⟨g1, g2, g3⟩ := dec' C.2.2.2.2.2.2.2.2.2.2.2.1 hc
  subst g2
  simp only [insOK, decide_eq_true_eq] at g3
  exact lv_if_lt C.1 C.2.1 g1 g3 (fun hh => kt hh p l e R s m args below meth c H locs cells slots base sa sv D dA lsC C hH hS hl h1 h2) (fun hh => kf hh p l e R s m args below meth c H locs cells slots base sa sv D dA lsC C hH hS hl h1 h2)
theorem x_if_ge {off : Int} (hc : lkp (mC M) pc = some (.ifCond .ge off, 3, nx, x, y, v, w)) {a : Int32} (kt : 0 ≤ a → ExS S d M x ls st lay VI VL VR bc bs P) (kf : ¬ 0 ≤ a → ExS S d M nx ls st lay VI VL VR bc bs P) : ExS S d M pc ls (.int a :: st) lay VI VL VR bc bs P := by
  intro p l e R s m args below meth c H locs cells slots base sa sv D dA lsC C hH hS hl h1 h2
  obtain ⟨g1, g2, g3⟩ := dec' C.2.2.2.2.2.2.2.2.2.2.2.1 hc
  subst g2
  simp only [insOK, decide_eq_true_eq] at g3
  exact lv_if_ge C.1 C.2.1 g1 g3 (fun hh => kt hh p l e R s m args below meth c H locs cells slots base sa sv D dA lsC C hH hS hl h1 h2) (fun hh => kf hh p l e R s m args below meth c H locs cells slots base sa sv D dA lsC C hH hS hl h1 h2)
theorem x_if_gt {off : Int} (hc : lkp (mC M) pc = some (.ifCond .gt off, 3, nx, x, y, v, w)) {a : Int32} (kt : 0 < a → ExS S d M x ls st lay VI VL VR bc bs P) (kf : ¬ 0 < a → ExS S d M nx ls st lay VI VL VR bc bs P) : ExS S d M pc ls (.int a :: st) lay VI VL VR bc bs P := by
  intro p l e R s m args below meth c H locs cells slots base sa sv D dA lsC C hH hS hl h1 h2
  obtain ⟨g1, g2, g3⟩ := dec' C.2.2.2.2.2.2.2.2.2.2.2.1 hc
  subst g2
  simp only [insOK, decide_eq_true_eq] at g3
  exact lv_if_gt C.1 C.2.1 g1 g3 (fun hh => kt hh p l e R s m args below meth c H locs cells slots base sa sv D dA lsC C hH hS hl h1 h2) (fun hh => kf hh p l e R s m args below meth c H locs cells slots base sa sv D dA lsC C hH hS hl h1 h2)
theorem x_if_le {off : Int} (hc : lkp (mC M) pc = some (.ifCond .le off, 3, nx, x, y, v, w)) {a : Int32} (kt : a ≤ 0 → ExS S d M x ls st lay VI VL VR bc bs P) (kf : ¬ a ≤ 0 → ExS S d M nx ls st lay VI VL VR bc bs P) : ExS S d M pc ls (.int a :: st) lay VI VL VR bc bs P := by
  intro p l e R s m args below meth c H locs cells slots base sa sv D dA lsC C hH hS hl h1 h2
  obtain ⟨g1, g2, g3⟩ := dec' C.2.2.2.2.2.2.2.2.2.2.2.1 hc
  subst g2
  simp only [insOK, decide_eq_true_eq] at g3
  exact lv_if_le C.1 C.2.1 g1 g3 (fun hh => kt hh p l e R s m args below meth c H locs cells slots base sa sv D dA lsC C hH hS hl h1 h2) (fun hh => kf hh p l e R s m args below meth c H locs cells slots base sa sv D dA lsC C hH hS hl h1 h2)
theorem x_icmp_eq {off : Int} (hc : lkp (mC M) pc = some (.if_icmp .eq off, 3, nx, x, y, v, w)) {a b : Int32} (kt : a = b → ExS S d M x ls st lay VI VL VR bc bs P) (kf : ¬ a = b → ExS S d M nx ls st lay VI VL VR bc bs P) : ExS S d M pc ls (.int b :: .int a :: st) lay VI VL VR bc bs P := by
  intro p l e R s m args below meth c H locs cells slots base sa sv D dA lsC C hH hS hl h1 h2
  obtain ⟨g1, g2, g3⟩ := dec' C.2.2.2.2.2.2.2.2.2.2.2.1 hc
  subst g2
  simp only [insOK, decide_eq_true_eq] at g3
  exact lv_icmp_eq C.1 C.2.1 g1 g3 (fun hh => kt hh p l e R s m args below meth c H locs cells slots base sa sv D dA lsC C hH hS hl h1 h2) (fun hh => kf hh p l e R s m args below meth c H locs cells slots base sa sv D dA lsC C hH hS hl h1 h2)
theorem x_icmp_ne {off : Int} (hc : lkp (mC M) pc = some (.if_icmp .ne off, 3, nx, x, y, v, w)) {a b : Int32} (kt : ¬ a = b → ExS S d M x ls st lay VI VL VR bc bs P) (kf : a = b → ExS S d M nx ls st lay VI VL VR bc bs P) : ExS S d M pc ls (.int b :: .int a :: st) lay VI VL VR bc bs P := by
  intro p l e R s m args below meth c H locs cells slots base sa sv D dA lsC C hH hS hl h1 h2
  obtain ⟨g1, g2, g3⟩ := dec' C.2.2.2.2.2.2.2.2.2.2.2.1 hc
  subst g2
  simp only [insOK, decide_eq_true_eq] at g3
  exact lv_icmp_ne C.1 C.2.1 g1 g3 (fun hh => kt hh p l e R s m args below meth c H locs cells slots base sa sv D dA lsC C hH hS hl h1 h2) (fun hh => kf hh p l e R s m args below meth c H locs cells slots base sa sv D dA lsC C hH hS hl h1 h2)
theorem x_icmp_lt {off : Int} (hc : lkp (mC M) pc = some (.if_icmp .lt off, 3, nx, x, y, v, w)) {a b : Int32} (kt : a < b → ExS S d M x ls st lay VI VL VR bc bs P) (kf : ¬ a < b → ExS S d M nx ls st lay VI VL VR bc bs P) : ExS S d M pc ls (.int b :: .int a :: st) lay VI VL VR bc bs P := by
  intro p l e R s m args below meth c H locs cells slots base sa sv D dA lsC C hH hS hl h1 h2
  obtain ⟨g1, g2, g3⟩ := dec' C.2.2.2.2.2.2.2.2.2.2.2.1 hc
  subst g2
  simp only [insOK, decide_eq_true_eq] at g3
  exact lv_icmp_lt C.1 C.2.1 g1 g3 (fun hh => kt hh p l e R s m args below meth c H locs cells slots base sa sv D dA lsC C hH hS hl h1 h2) (fun hh => kf hh p l e R s m args below meth c H locs cells slots base sa sv D dA lsC C hH hS hl h1 h2)
theorem x_icmp_ge {off : Int} (hc : lkp (mC M) pc = some (.if_icmp .ge off, 3, nx, x, y, v, w)) {a b : Int32} (kt : b ≤ a → ExS S d M x ls st lay VI VL VR bc bs P) (kf : ¬ b ≤ a → ExS S d M nx ls st lay VI VL VR bc bs P) : ExS S d M pc ls (.int b :: .int a :: st) lay VI VL VR bc bs P := by
  intro p l e R s m args below meth c H locs cells slots base sa sv D dA lsC C hH hS hl h1 h2
  obtain ⟨g1, g2, g3⟩ := dec' C.2.2.2.2.2.2.2.2.2.2.2.1 hc
  subst g2
  simp only [insOK, decide_eq_true_eq] at g3
  exact lv_icmp_ge C.1 C.2.1 g1 g3 (fun hh => kt hh p l e R s m args below meth c H locs cells slots base sa sv D dA lsC C hH hS hl h1 h2) (fun hh => kf hh p l e R s m args below meth c H locs cells slots base sa sv D dA lsC C hH hS hl h1 h2)
theorem x_icmp_gt {off : Int} (hc : lkp (mC M) pc = some (.if_icmp .gt off, 3, nx, x, y, v, w)) {a b : Int32} (kt : b < a → ExS S d M x ls st lay VI VL VR bc bs P) (kf : ¬ b < a → ExS S d M nx ls st lay VI VL VR bc bs P) : ExS S d M pc ls (.int b :: .int a :: st) lay VI VL VR bc bs P := by
  intro p l e R s m args below meth c H locs cells slots base sa sv D dA lsC C hH hS hl h1 h2
  obtain ⟨g1, g2, g3⟩ := dec' C.2.2.2.2.2.2.2.2.2.2.2.1 hc
  subst g2
  simp only [insOK, decide_eq_true_eq] at g3
  exact lv_icmp_gt C.1 C.2.1 g1 g3 (fun hh => kt hh p l e R s m args below meth c H locs cells slots base sa sv D dA lsC C hH hS hl h1 h2) (fun hh => kf hh p l e R s m args below meth c H locs cells slots base sa sv D dA lsC C hH hS hl h1 h2)
theorem x_icmp_le {off : Int} (hc : lkp (mC M) pc = some (.if_icmp .le off, 3, nx, x, y, v, w)) {a b : Int32} (kt : a ≤ b → ExS S d M x ls st lay VI VL VR bc bs P) (kf : ¬ a ≤ b → ExS S d M nx ls st lay VI VL VR bc bs P) : ExS S d M pc ls (.int b :: .int a :: st) lay VI VL VR bc bs P := by
  intro p l e R s m args below meth c H locs cells slots base sa sv D dA lsC C hH hS hl h1 h2
  obtain ⟨g1, g2, g3⟩ := dec' C.2.2.2.2.2.2.2.2.2.2.2.1 hc
  subst g2
  simp only [insOK, decide_eq_true_eq] at g3
  exact lv_icmp_le C.1 C.2.1 g1 g3 (fun hh => kt hh p l e R s m args below meth c H locs cells slots base sa sv D dA lsC C hH hS hl h1 h2) (fun hh => kf hh p l e R s m args below meth c H locs cells slots base sa sv D dA lsC C hH hS hl h1 h2)
theorem x_goto {off : Int} (hc : lkp (mC M) pc = some (.goto off, 3, nx, x, y, v, w)) (k : ExS S d M x ls st lay VI VL VR bc bs P) : ExS S d M pc ls st lay VI VL VR bc bs P := by
  intro p l e R s m args below meth c H locs cells slots base sa sv D dA lsC C hH hS hl h1 h2
  obtain ⟨g1, g2, g3⟩ := dec' C.2.2.2.2.2.2.2.2.2.2.2.1 hc
  subst g2
  simp only [insOK, decide_eq_true_eq] at g3
  exact lv_goto C.1 C.2.1 g1 g3 (k p l e R s m args below meth c H locs cells slots base sa sv D dA lsC C hH hS hl h1 h2)
theorem x_ifnull {off : Int} {a : Nat} (hc : lkp (mC M) pc = some (.ifnull off, 3, nx, x, y, v, w)) (k : ExS S d M nx ls st lay VI VL VR bc bs P) : ExS S d M pc ls (.ref a :: st) lay VI VL VR bc bs P := by
  intro p l e R s m args below meth c H locs cells slots base sa sv D dA lsC C hH hS hl h1 h2
  obtain ⟨g1, g2, g3⟩ := dec' C.2.2.2.2.2.2.2.2.2.2.2.1 hc
  subst g2
  exact lv_ifnull C.1 C.2.1 g1 (k p l e R s m args below meth c H locs cells slots base sa sv D dA lsC C hH hS hl h1 h2)
theorem x_ifnullN {off : Int} (hc : lkp (mC M) pc = some (.ifnull off, 3, nx, x, y, v, w)) (k : ExS S d M x ls st lay VI VL VR bc bs P) : ExS S d M pc ls (.null :: st) lay VI VL VR bc bs P := by
  intro p l e R s m args below meth c H locs cells slots base sa sv D dA lsC C hH hS hl h1 h2
  obtain ⟨g1, g2, g3⟩ := dec' C.2.2.2.2.2.2.2.2.2.2.2.1 hc
  subst g2
  simp only [insOK, decide_eq_true_eq] at g3
  exact lv_ifnullN C.1 C.2.1 g1 g3 (k p l e R s m args below meth c H locs cells slots base sa sv D dA lsC C hH hS hl h1 h2)
end XR
