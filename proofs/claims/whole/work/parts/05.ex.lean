/-! ===== the layer of Ex: a method's run from a place on, over a heap of a known layout; addresses count from base ===== -/
abbrev SA : Type := Nat × Nat × Nat × Option Nat
abbrev SPr : Type := Nat → SA → State → Prop
abbrev HL : Type := List ((Nat × Nat) ⊕ Nat)
abbrev VIT : Type := Nat → Nat → Int32
abbrev VLT : Type := Nat → Nat → Int64
abbrev VRT : Type := Nat → Nat → Value
abbrev mY (M : MI) : MethodName := M.1
abbrev mB (M : MI) : ByteArray := M.2.1
abbrev mL (M : MI) : Nat := M.2.2.1
abbrev mR (M : MI) : Option FieldType := M.2.2.2.1
abbrev mO (M : MI) : Nat := M.2.2.2.2.1
abbrev mN (M : MI) : Nat := M.2.2.2.2.2.1
abbrev mF (M : MI) : Nat := M.2.2.2.2.2.2.1
abbrev mC (M : MI) : List (Nat × Ent) := M.2.2.2.2.2.2.2
def lkp : List (Nat × Ent) → Nat → Option Ent
  | [], _ => none
  | e :: r, pc => bif Nat.beq e.1 pc then some e.2 else lkp r pc
def tagOf : ArrayType → Nat
  | .int => 0
  | .byte => 1
  | .boolean => 2
  | .long => 3
  | _ => 9
def insOK (ow pc : Nat) (e : Ent) : Bool := match e.1 with
  | .iconst n => decide (Int32.ofInt n = e.2.2.2.2.2.1)
  | .bipush n => decide ((Int8.ofInt n).toInt32 = e.2.2.2.2.2.1)
  | .sipush n => decide ((Int16.ofInt n).toInt32 = e.2.2.2.2.2.1)
  | .lconst n => decide (Int64.ofNat (n : Nat) = e.2.2.2.2.2.2)
  | .iload_n k => (k : Nat) == e.2.2.2.1
  | .istore_n k => (k : Nat) == e.2.2.2.1
  | .aload_n k => (k : Nat) == e.2.2.2.1
  | .astore_n k => (k : Nat) == e.2.2.2.1
  | .lload_n k => (k : Nat) == e.2.2.2.1
  | .lstore_n k => (k : Nat) == e.2.2.2.1
  | .iload k => k == e.2.2.2.1
  | .istore k => k == e.2.2.2.1
  | .aload k => k == e.2.2.2.1
  | .astore k => k == e.2.2.2.1
  | .lload k => k == e.2.2.2.1
  | .lstore k => k == e.2.2.2.1
  | .iinc i n => i == e.2.2.2.1 && decide (Int32.ofInt n = e.2.2.2.2.2.1)
  | .ifCond _ off => decide ((pc : Int) + off = (e.2.2.2.1 : Int))
  | .if_icmp _ off => decide ((pc : Int) + off = (e.2.2.2.1 : Int))
  | .goto off => decide ((pc : Int) + off = (e.2.2.2.1 : Int))
  | .ifnull off => decide ((pc : Int) + off = (e.2.2.2.1 : Int))
  | .getfield i => fls.elem (ow, i, e.2.2.2.1, e.2.2.2.2.1) || (e.2.2.2.1 == 50 && ow == 16 && i == 9) || (e.2.2.2.1 == 51 && ow == 16 && i == 15)
  | .getstatic i => (e.2.2.2.1 == 0 && ow == 16 && i == 38) || (e.2.2.2.1 == 1 && ow == 16 && i == 1053)
  | .putfield i => fls.elem (ow, i, e.2.2.2.1, e.2.2.2.2.1)
  | .new i => clk.elem (ow, i, e.2.2.2.1, 0)
  | .anewarray i => (e.2.2.2.1 == 4 && clk.elem (ow, i, 10, 1)) || (e.2.2.2.1 == 5 && clk.elem (ow, i, 9, 1))
  | .newarray t => tagOf t == e.2.2.2.1
  | .ldc i => (e.2.2.2.1 == 0 && cts.elem (ow, i, e.2.2.2.2.2.1)) || (e.2.2.2.1 == 1 && ow == 5 && i == 93)
  | .ldc_w i => cts.elem (ow, i, e.2.2.2.2.2.1)
  | .ldc2_w i => ctls.elem (ow, i, e.2.2.2.2.2.2)
  | .invokestatic i => (e.2.2.2.2.1 == 0 && Nat.blt e.2.2.2.1 1000 && mls.elem (ow, i, e.2.2.2.1, 0)) || (e.2.2.2.1 == 1001 && acl.elem (ow, i)) || (e.2.2.2.2.1 == 3 && nls.elem (ow, i, e.2.2.2.1))
  | .invokevirtual i => (e.2.2.2.2.1 == 1 && Nat.blt e.2.2.2.1 1000 && mls.elem (ow, i, e.2.2.2.1, 1))
  | .invokespecial i => (e.2.2.2.1 == 1000 && oil.elem (ow, i)) || (e.2.2.2.2.1 == 2 && Nat.blt e.2.2.2.1 1000 && mls.elem (ow, i, e.2.2.2.1, 2))
  | _ => true
def entOK (b : ByteArray) (ow : Nat) (q : Nat × Ent) : Bool := decide (decode b q.1 = .ok (q.2.1, q.2.2.1)) && (q.1 + q.2.2.1 == q.2.2.2.1) && insOK ow q.1 q.2
def hdOK (M : MI) : Bool := plainName M.1.cls && (M.1.cls == own (mO M)) && Nat.ble (mL M) 40 && decide (M.1.cls ≠ "java/lang/invoke/MethodHandle" ∧ M.1.cls ≠ "java/lang/invoke/VarHandle" ∧ (parseMethodDescriptor M.1.desc).map (fun d => d.parameters.length) = some (mN M))
def mOK (M : MI) : Prop := (∀ q ∈ mC M, entOK (mB M) (mO M) q = true) ∧ hdOK M = true
def mOKm (M : MI) : Prop := mOK M ∧ M ∈ mil
theorem lkp_mem : ∀ {l : List (Nat × Ent)} {pc : Nat} {e : Ent}, lkp l pc = some e → (pc, e) ∈ l
  | [], _, _, h => by simp [lkp] at h
  | a :: r, pc, e, h => by
    unfold lkp at h
    cases hb : Nat.beq a.1 pc with
    | true =>
      rw [hb] at h
      have h1 := Nat.eq_of_beq_eq_true hb
      simp only [cond_true, Option.some.injEq] at h
      subst h1; subst h
      exact List.mem_cons_self
    | false =>
      rw [hb] at h
      exact List.mem_cons_of_mem _ (lkp_mem h)
theorem dec {M : MI} (hM : mOK M) {pc : Nat} {e : Ent} (h : lkp (mC M) pc = some e) : decode (mB M) pc = .ok (e.1, e.2.1) ∧ e.2.2.1 = pc + e.2.1 ∧ insOK (mO M) pc e = true := by
  have h1 := hM.1 _ (lkp_mem h)
  simp only [entOK, Bool.and_eq_true, decide_eq_true_eq, beq_iff_eq] at h1
  exact ⟨h1.1.1, h1.1.2.symm, h1.2⟩
/-- what was there before, by marks: 0 the script, 1 the text of the words, 2 its bytes, 3 a formatter -/
def mvF (sa : SA) (k : UInt32) : Value := if k = 0 then .ref sa.1 else if k = 1 then .ref sa.2.1 else if k = 2 then .ref sa.2.2.1 else va_rf sa.2.2.2
def mv (base : Nat) (sa : SA) : Value → Value
  | .ref a => .ref (base + a)
  | .float k => mvF sa k
  | v => v
theorem mv_cat (base : Nat) (sa : SA) (v : Value) : (mv base sa v).category = v.category := by
  cases v with
  | float k =>
    show (mvF sa k).category = 1
    unfold mvF
    split
    · rfl
    · split
      · rfl
      · split
        · rfl
        · cases sa.2.2.2 <;> rfl
  | _ => rfl
def fv (VI : VIT) (VL : VLT) (VR : VRT) (a ci k : Nat) : Value := match cty ci k with
  | .object _ => VR a k
  | .array _ => VR a k
  | .long => .long (VL a k)
  | _ => .int (VI a k)
def rfo (base : Nat) : Value → Option Nat
  | .ref b => some (base + b)
  | _ => none
def aC (base : Nat) (VI : VIT) (VL : VLT) (VR : VRT) (a t : Nat) : (Nat → Int32) ⊕ (Nat → Int64) ⊕ (Nat → UInt32) ⊕ (Nat → UInt64) ⊕ (Nat → Option Nat) := match t with
  | 3 => .inr (.inl (VL a))
  | 4 => .inr (.inr (.inr (.inr (fun j => rfo base (VR a j)))))
  | 5 => .inr (.inr (.inr (.inr (fun j => rfo base (VR a j)))))
  | _ => .inl (VI a)
def fsC (base : Nat) (sa : SA) (VI : VIT) (VL : VLT) (VR : VRT) (a ci : Nat) : List Value := (List.range (cnf ci)).map (fun k => mv base sa (fv VI VL VR a ci k))
def cE (base : Nat) (sa : SA) (dA : Nat → ClassId) (VI : VIT) (VL : VLT) (VR : VRT) (a : Nat) (x : (Nat × Nat) ⊕ Nat) : va_E := match x with
  | .inr ci => .inr (ci, fsC base sa VI VL VR a ci)
  | .inl q => .inl (dA q.1, q.2, aC base VI VL VR a q.1)
def wsC (base : Nat) (sa : SA) (dA : Nat → ClassId) (lay : HL) (VI : VIT) (VL : VLT) (VR : VRT) : va_W := lay.mapIdx (fun a x => (base + a, cE base sa dA VI VL VR a x))
theorem wsC_at {base : Nat} {sa : SA} {dA : Nat → ClassId} {lay : HL} {VI : VIT} {VL : VLT} {VR : VRT} {a : Nat} {x : (Nat × Nat) ⊕ Nat} (h : lay[a]? = some x) : (wsC base sa dA lay VI VL VR)[a]? = some (base + a, cE base sa dA VI VL VR a x) := by
  simp [wsC, h]
theorem wsC_inv {base : Nat} {sa : SA} {dA : Nat → ClassId} {lay : HL} {VI : VIT} {VL : VLT} {VR : VRT} {a : Nat} {q : Nat × va_E} (h : (wsC base sa dA lay VI VL VR)[a]? = some q) : ∃ x, lay[a]? = some x ∧ q = (base + a, cE base sa dA VI VL VR a x) := by
  simp only [wsC, List.getElem?_mapIdx] at h
  cases hx : lay[a]? with
  | none => rw [hx] at h; cases h
  | some x => rw [hx] at h; exact ⟨x, rfl, (Option.some.inj h).symm⟩
theorem wsC_D (base : Nat) (sa : SA) (dA : Nat → ClassId) (lay : HL) (VI : VIT) (VL : VLT) (VR : VRT) : va_D (fun q => base ≤ q) (wsC base sa dA lay VI VL VR) := by
  refine ⟨fun i j p q hp hq e => ?_, fun k q hq => ?_⟩
  · obtain ⟨x, -, rfl⟩ := wsC_inv hp
    obtain ⟨y, -, rfl⟩ := wsC_inv hq
    exact Nat.add_left_cancel e
  · obtain ⟨x, -, rfl⟩ := wsC_inv hq
    exact Nat.le_add_right _ _
def HR (base : Nat) (sa : SA) (dA : Nat → ClassId) (D : va_G) (lay : HL) (VI : VIT) (VL : VLT) (VR : VRT) (H : Heap) : Prop := H.size = base + lay.length ∧ va_P D cls (wsC base sa dA lay VI VL VR) H
abbrev tysL (dA : Nat → ClassId) : List (ClassId × FieldType) := [(dA 0, .int), (dA 1, .byte), (dA 2, .boolean), (dA 3, .long), (dA 4, .object RX10), (dA 5, .object RX9)]
def wordsTx : String := "takes sways bars talk develop bury pass with of times if not and or person other mark its firm age day week mood done latest living agrees"
def wordsBy : List Int32 := [116, 97, 107, 101, 115, 32, 115, 119, 97, 121, 115, 32, 98, 97, 114, 115, 32, 116, 97, 108, 107, 32, 100, 101, 118, 101, 108, 111, 112, 32, 98, 117, 114, 121, 32, 112, 97, 115, 115, 32, 119, 105, 116, 104, 32, 111, 102, 32, 116, 105, 109, 101, 115, 32, 105, 102, 32, 110, 111, 116, 32, 97, 110, 100, 32, 111, 114, 32, 112, 101, 114, 115, 111, 110, 32, 111, 116, 104, 101, 114, 32, 109, 97, 114, 107, 32, 105, 116, 115, 32, 102, 105, 114, 109, 32, 97, 103, 101, 32, 100, 97, 121, 32, 119, 101, 101, 107, 32, 109, 111, 111, 100, 32, 100, 111, 110, 101, 32, 108, 97, 116, 101, 115, 116, 32, 108, 105, 118, 105, 110, 103, 32, 97, 103, 114, 101, 101, 115]
abbrev wordsLn : Nat := 138
/-- what was there before: the text of the words, String's static, links of nest mates, arrays over classes -/
def Old (base : Nat) (sa : SA) (sv : Nat) (U : State) : Prop := vk_R RX5 93 wordsTx sa.2.1 U ∧ vk_S 1 [wordsLn] [wordsBy] (fun _ => sa.2.1) (fun _ => sa.2.2.1) (fun q => base ≤ q) U U.heap ∧ va_Z "java/lang/String" "COMPACT_STRINGS" "Z" (.int 1) (fun q => base ≤ q) U U.heap ∧ (∀ q ∈ nls, va_Nw (.methodLinkNest (own q.1) q.2.1 (mi q.2.2).1 RX11) U) ∧ va_AO RX10 U ∧ va_AO RX9 U ∧ va_Z "jdk/internal/util/Preconditions" "SIOOBE_FORMATTER" "Ljava/util/function/BiFunction;" (va_rf sa.2.2.2) (fun q => base ≤ q) U U.heap
def KK (base : Nat) (sa : SA) (sv : Nat) (D : va_G) (dA : Nat → ClassId) (U : State) : Prop := va_K D cls (tysL dA) U ∧ Old base sa sv U ∧ base ≤ U.heap.size
theorem KK.move {base : Nat} {sa : SA} {sv : Nat} {D : va_G} {dA : Nat → ClassId} {s U : State} (h : KK base sa sv D dA s) (hW : s.WarmedH U.vm) (hq : ∀ q : Nat, q < base → U.heap[q]? = s.heap[q]?) (hz : base ≤ U.heap.size) : KK base sa sv D dA U := by
  obtain ⟨h1, ⟨h2, h3, h4, h5, h6, h7, h9⟩, h8⟩ := h
  have hk : ∀ a : Nat, a < s.heap.size → ¬ base ≤ a → U.heap[a]? = s.heap[a]? := fun a _ hb => hq a (Nat.not_le.mp hb)
  exact ⟨va_K.moved hW.alike h1, ⟨vk_R.warm hW h2, (vk_S.moved hW.alike h3).kept hk, (va_Z.moved hW.alike h4).kept hk, fun q hq => va_Nw.warmM hW (h5 q hq), va_AO.moved hW.alike h6, va_AO.moved hW.alike h7, (va_Z.moved hW.alike h9).kept hk⟩, hz⟩
/-- locals -/
def isRA : Value → Bool
  | .retAddr _ => true
  | _ => false
def LR (base : Nat) (sa : SA) (n : Nat) (lsC : Array Slot) (ls : List Value) : Prop := lsC.size = n ∧ lv_wf lsC ∧ ∀ (i : Nat) (v : Value), ls[i]? = some v → isRA v = false → lsC[i]? = some (.val (mv base sa v))
def frs (d : Nat) : Nat := d + 1
def lcs (d : Nat) : Nat := 60 * d + 100
def Cx (S : SPr) (d : Nat) (M : MI) (base : Nat) (sa : SA) (sv : Nat) (D : va_G) (dA : Nat → ClassId) (p : Program) (R : Room) (s : State) (m : MethodId) (args : Array Value) (meth : Method) (c : Code) : Prop :=
  p.tables.exec = Jvm.exec ∧ c.code = mB M ∧ meth.sig.returnType = mR M ∧ c.maxLocals = mL M ∧ s.vm.findClass (own (mO M)) = some m.cls ∧ (∀ w ∈ gw, w.before args s = true) ∧ KK base sa sv D dA s ∧ meth.locks = false ∧ meth.name = (mY M).name ∧ frs d ≤ R.frames ∧ lcs d ≤ R.locals ∧ mOK M ∧ S base sa s
abbrev Post : Type := Option Value → HL → VIT → VLT → VRT → Prop
def QP (base : Nat) (sa : SA) (D : va_G) (dA : Nat → ClassId) (P : Post) : Array Value → State → Outcome → State → Prop := fun _ st o t =>
  (∃ (v : Option Value) (lay : HL) (VI : VIT) (VL : VLT) (VR : VRT), o = .returned (v.map (mv base sa)) ∧ P v lay VI VL VR ∧ HR base sa dA D lay VI VL VR t.heap) ∧ va_F (fun q => base ≤ q) st t
def ExS (S : SPr) (d : Nat) (M : MI) (pc : Nat) (ls st : List Value) (lay : HL) (VI : VIT) (VL : VLT) (VR : VRT) (bc bs : Nat) (P : Post) : Prop :=
  ∀ (p : Program) (l : Launch) (e : Env) (R : Room) (s : State) (m : MethodId) (args : Array Value) (below : List Frame) (meth : Method) (c : Code) (H : Heap) (locs : List Loc) (cells slots base : Nat) (sa : SA) (sv : Nat) (D : va_G) (dA : Nat → ClassId) (lsC : Array Slot),
    Cx S d M base sa sv D dA p R s m args meth c → HR base sa dA D lay VI VL VR H → va_S (fun q => base ≤ q) s.heap H locs → LR base sa (mL M) lsC ls → cells + bc ≤ R.cells → slots + bs ≤ R.slots →
    W p l e R s m args below meth c H locs cells slots (MQ below (QP base sa D dA P) args s R.cells R.slots (fun q => base ≤ q)) (F0 m pc lsC (st.map (mv base sa)))
abbrev Ex (d : Nat) (M : MI) (pc : Nat) (ls st : List Value) (lay : HL) (VI : VIT) (VL : VLT) (VR : VRT) (bc bs : Nat) (P : Post) : Prop := ExS (fun _ _ _ => True) d M pc ls st lay VI VL VR bc bs P
