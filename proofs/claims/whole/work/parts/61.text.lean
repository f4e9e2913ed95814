/-! ===== texts: tokens as the model has them (code, value); what sums and tests tell ===== -/
abbrev Env : Type := Nat → Int
abbrev Den : Type := Env → Option Int
def bndI (v : Int) : Option Int := if 1000000000 < v ∨ v < -1000000000 then none else some v
/-- two values joined by a sign (its byte) -/
def jn (op : Nat) (a b : Int) : Option Int :=
  if op = 43 then bndI (a + b) else if op = 45 then bndI (a - b) else if op = 42 then bndI (a * b)
  else if op = 47 then (if b = 0 then none else bndI (Int.tdiv a b))
  else if op = 37 then (if b = 0 then none else bndI (Int.tmod a b))
  else if op = 60 then some (if a < b then 1 else 0)
  else if op = 62 then some (if b < a then 1 else 0)
  else if op = 61 then some (if a = b then 1 else 0)
  else none
def dBin (op : Nat) (x y : Den) : Den := fun e => (x e).bind (fun a => (y e).bind (fun b => jn op a b))
def dNot (x : Den) : Den := fun e => (x e).bind (fun a => some (1 - a))
def dAnd (x y : Den) : Den := fun e => (x e).bind (fun a => if a = 0 then some a else y e)
def dOr (x y : Den) : Den := fun e => (x e).bind (fun a => if a = 0 then y e else some a)
def dNum (v : Nat) : Den := fun _ => some (v : Int)
def dWord (w : Nat) : Den := fun e => some (e w)
/-- what a reader's step came to: 1 it went on, 0 it is wrong here, 2 no room to say; the token, the parts, what it tells -/
abbrev PRd : Type := Nat × Nat × Nat × Den
def pbd (r : PRd) (k : Nat → Nat → Den → PRd) : PRd := if r.1 = 1 then k r.2.1 r.2.2.1 r.2.2.2 else r
/-- how many tokens c stand in a row from i on, m at most -/
def nrun (tc : Nat → Nat) (c : Nat) : Nat → Nat → Nat
  | _, 0 => 0
  | i, m + 1 => if tc i = c then nrun tc c (i + 1) m + 1 else 0
/-- the grammar of both languages: 0 test, 1 its loop, 2 both, 3 its loop, 4 plain, 5 sum, 6 its loop, 7 term, 8 its loop, 9 part, 10 plain without its nots -/
def prs (o : Bool) (tc tv : Nat → Nat) : Nat → Nat → Nat → Nat → Nat → Den → PRd
  | 0, _, _, i, p, x => (2, i, p, x)
  | f + 1, m, dp, i, p, x =>
    if m = 0 then pbd (prs o tc tv f 2 dp i p x) (fun i' p' y => prs o tc tv f 1 dp i' p' y)
    else if m = 1 then (if tc i = 5 then pbd (prs o tc tv f 2 dp (i + 1) p x) (fun i' p' y => prs o tc tv f 1 dp i' p' (dOr x y)) else (1, i, p, x))
    else if m = 2 then pbd (prs o tc tv f 4 dp i p x) (fun i' p' y => prs o tc tv f 3 dp i' p' y)
    else if m = 3 then (if tc i = 6 then pbd (prs o tc tv f 4 dp (i + 1) p x) (fun i' p' y => prs o tc tv f 3 dp i' p' (dAnd x y)) else (1, i, p, x))
    else if m = 4 then pbd (prs o tc tv f 10 dp (i + nrun tc 7 i 401) p x) (fun i' p' y => (1, i', p', if nrun tc 7 i 401 % 2 = 1 then dNot y else y))
    else if m = 5 then pbd (prs o tc tv f 7 dp i p x) (fun i' p' y => prs o tc tv f 6 dp i' p' y)
    else if m = 6 then (if tc i = 143 ∨ tc i = 145 then pbd (prs o tc tv f 7 dp (i + 1) p x) (fun i' p' y => prs o tc tv f 6 dp i' p' (dBin (tc i - 100) x y)) else (1, i, p, x))
    else if m = 7 then pbd (prs o tc tv f 9 dp i p x) (fun i' p' y => prs o tc tv f 8 dp i' p' y)
    else if m = 8 then (if tc i = 142 ∨ tc i = 147 ∨ tc i = 137 then pbd (prs o tc tv f 9 dp (i + 1) p x) (fun i' p' y => prs o tc tv f 8 dp i' p' (dBin (tc i - 100) x y)) else (1, i, p, x))
    else if m = 9 then
      (if tc i = 191 then (if 8 ≤ dp then (0, i, p, x) else pbd (prs o tc tv f 5 (dp + 1) (i + 1) p x) (fun i' p' y => if tc i' = 193 then (1, i' + 1, p', y) else (0, i', p', y)))
      else if 50 ≤ p then (0, i, p, x)
      else if tc i = 50 ∧ tv i ≤ 1000 then (1, i + 1, p + 1, dNum (tv i))
      else if o = false then (if 8 ≤ tc i ∧ tc i ≤ 16 then (1, i + 1, p + 1, dWord (tc i)) else (0, i, p, x))
      else if tc i = 15 then (if tc (i + 1) = 50 ∧ tv (i + 1) ≤ 23 then (1, i + 2, p + 1, dWord (100 + tv (i + 1))) else (0, i + 1, p, x))
      else if tc i = 20 then (if tc (i + 1) = 50 ∧ tv (i + 1) ≤ 7 then (1, i + 2, p + 1, dWord (200 + tv (i + 1))) else (0, i + 1, p, x))
      else if 16 ≤ tc i ∧ tc i ≤ 19 then (1, i + 1, p + 1, dWord (tc i)) else (0, i, p, x))
    else
      (if tc i = 140 then (if 8 ≤ dp then (0, i, p, x) else pbd (prs o tc tv f 0 (dp + 1) (i + 1) p x) (fun i' p' y => if tc i' = 141 then (1, i' + 1, p', y) else (0, i', p', y)))
      else pbd (prs o tc tv f 5 dp i p x) (fun i' p' y => if tc i' = 160 ∨ tc i' = 162 ∨ tc i' = 161 then pbd (prs o tc tv f 5 dp (i' + 1) p' x) (fun i2 p2 z => (1, i2, p2, dBin (tc i' - 100) y z)) else (0, i', p', y)))
/-- a clause: its kind, how often, its sums, whether it has a test, its test -/
abbrev Cla : Type := Nat × Nat × Den × Den × Den × Nat × Den
abbrev PFuel : Nat := 20000
def dz : Den := fun _ => some 0
def pSum (o : Bool) (tc tv : Nat → Nat) (i p : Nat) : PRd := prs o tc tv PFuel 5 0 i p dz
def pTest (o : Bool) (tc tv : Nat → Nat) (i p : Nat) : PRd := prs o tc tv PFuel 0 0 i p dz
abbrev PCl : Type := Nat × Nat × Nat × Cla
def pIf (o : Bool) (tc tv : Nat → Nat) (i p kd tm : Nat) (x y z : Den) : PCl :=
  if tc i = 4 then (if (pTest o tc tv (i + 1) p).1 = 1 then (1, (pTest o tc tv (i + 1) p).2.1, (pTest o tc tv (i + 1) p).2.2.1, kd, tm, x, y, z, 1, (pTest o tc tv (i + 1) p).2.2.2) else ((pTest o tc tv (i + 1) p).1, (pTest o tc tv (i + 1) p).2.1, (pTest o tc tv (i + 1) p).2.2.1, kd, tm, x, y, z, 1, dz))
  else (1, i, p, kd, tm, x, y, z, 0, dz)
/-- a clause of a law: kinds 0 takes, 1 sways, 2 bars -/
def pLawC (tc tv : Nat → Nat) (i p : Nat) : PCl :=
  if tc i = 1 ∨ tc i = 2 then (if (pSum false tc tv (i + 1) p).1 = 1 then pIf false tc tv (pSum false tc tv (i + 1) p).2.1 (pSum false tc tv (i + 1) p).2.2.1 (tc i - 1) 1 (pSum false tc tv (i + 1) p).2.2.2 dz dz else ((pSum false tc tv (i + 1) p).1, (pSum false tc tv (i + 1) p).2.1, (pSum false tc tv (i + 1) p).2.2.1, 0, 1, dz, dz, dz, 0, dz))
  else if tc i = 3 then pIf false tc tv (i + 1) p 2 1 dz dz dz
  else (0, i, p, 0, 1, dz, dz, dz, 0, dz)
/-- times and test of a clause of orders -/
def pTimes (tc tv : Nat → Nat) (i p kd : Nat) (x y z : Den) : PCl :=
  if tc i = 27 then (if tc (i + 1) = 50 ∧ 1 ≤ tv (i + 1) ∧ tv (i + 1) ≤ 20 then pIf true tc tv (i + 2) p kd (tv (i + 1)) x y z else (0, i + 1, p, kd, 1, x, y, z, 0, dz))
  else pIf true tc tv i p kd 1 x y z
def pcb (r : PRd) (k : Nat → Nat → Den → PCl) : PCl := if r.1 = 1 then k r.2.1 r.2.2.1 r.2.2.2 else (r.1, r.2.1, r.2.2.1, 0, 1, dz, dz, dz, 0, dz)
/-- a clause of orders: kinds 0 talk, 1 develop, 2 bury, 3 pass -/
def pOrdC (tc tv : Nat → Nat) (i p : Nat) : PCl :=
  if tc i = 21 then pcb (pSum true tc tv (i + 1) p) (fun i1 p1 x => if tc i1 = 22 then pcb (pSum true tc tv (i1 + 1) p1) (fun i2 p2 y => if tc i2 = 23 then pcb (pSum true tc tv (i2 + 1) p2) (fun i3 p3 z => pTimes tc tv i3 p3 0 x y z) else (0, i2, p2, 0, 1, dz, dz, dz, 0, dz)) else (0, i1, p1, 0, 1, dz, dz, dz, 0, dz))
  else if tc i = 24 ∨ tc i = 25 then pcb (pSum true tc tv (i + 1) p) (fun i1 p1 x => pTimes tc tv i1 p1 (tc i - 23) x dz dz)
  else if tc i = 26 then pTimes tc tv (i + 1) p 3 dz dz dz
  else (0, i, p, 0, 1, dz, dz, dz, 0, dz)
/-- a text of n tokens from the token i on, m clauses at most: 1 and its clauses, or 0 and the token that can't go on -/
def pTxt (o : Bool) (tc tv : Nat → Nat) (n : Nat) : Nat → Nat → Nat → Nat × Nat × List Cla
  | 0, i, _ => (0, i, [])
  | m + 1, i, p =>
    let r := if o = true then pOrdC tc tv i p else pLawC tc tv i p
    if r.1 = 1 then
      (if r.2.1 = n then (1, n, [r.2.2.2])
      else if tc r.2.1 = 159 then (let q := pTxt o tc tv n m (r.2.1 + 1) r.2.2.1; (q.1, q.2.1, r.2.2.2 :: q.2.2))
      else (0, r.2.1, []))
    else (r.1, r.2.1, [])
/-- the class's machine over the code cd of length L: words tells where a word of the class stands among those of the model -/
def vm (nw : Nat) (cd : Nat → Nat) (L : Nat) (e : Nat → Int) : Nat → Nat → List Int → Option Int
  | 0, _, _ => none
  | f + 1, i, s =>
    if i + 1 < L ∧ cd i ≠ 0 then
      (if cd i = 1 then (if 64 ≤ s.length then none else vm nw cd L e f (i + 2) ((cd (i + 1) : Int) :: s))
      else if cd i = 2 then (if 64 ≤ s.length ∨ nw ≤ cd (i + 1) then none else vm nw cd L e f (i + 2) (e (cd (i + 1)) :: s))
      else match s with
        | [] => none
        | a :: s1 =>
          if cd i = 3 then vm nw cd L e f (i + 2) ((1 - a) :: s1)
          else if cd i = 4 then (if a = 0 then vm nw cd L e f (max i (cd (i + 1) - 2) + 2) s else vm nw cd L e f (i + 2) s1)
          else if cd i = 5 then (if a = 0 then vm nw cd L e f (i + 2) s1 else vm nw cd L e f (max i (cd (i + 1) - 2) + 2) s)
          else match s1 with
            | [] => none
            | b :: s2 => match jn (cd i) b a with
              | none => none
              | some v => vm nw cd L e f (i + 2) (v :: s2))
    else match s with
      | [v] => some v
      | _ => none
/-- the class's words of a law, by the model's codes: person, other, mark, its, firm, age, day, week, mood -/
def lwm (k : Nat) : Nat := [8, 9, 15, 10, 11, 12, 13, 16, 14].getD k 0
/-- the class's words of orders: week, done, latest, living, agrees, marks -/
def owm (k : Nat) : Nat := if k < 4 then 16 + k else if k < 12 then 200 + (k - 4) else 100 + (k - 12)
/-- the code from s on tells x -/
def Tells (cd : Nat → Nat) (L s : Nat) (wm : Nat → Nat) (x : Den) : Prop := ∀ e : Env, vm (if wm 0 = 8 then 9 else 36) cd L (fun k => e (wm k)) 1000 s [] = x e
/-- the class's text: heads hd, code cd of length L, tells the clauses -/
def TextOf (hd : Nat → Int32) (cd : Nat → Nat) (L : Nat) (wm : Nat → Nat) (cl : List Cla) : Prop :=
  ∀ (i : Nat) (c : Cla), cl[i]? = some c →
    hd (6 * i) = nI c.1 ∧ hd (6 * i + 1) = nI c.2.1 ∧
    ((wm 0 = 8 ∧ c.1 = 2) ∨ (wm 0 = 16 ∧ c.1 = 3 ∧ hd (6 * i + 2) = -1) ∨ ∃ s, s < L ∧ hd (6 * i + 2) = nI s ∧ Tells cd L s wm c.2.2.1) ∧
    (wm 0 = 16 → (c.1 ≠ 0 ∧ hd (6 * i + 3) = -1 ∧ hd (6 * i + 4) = -1) ∨ (c.1 = 0 ∧ (∃ s, s < L ∧ hd (6 * i + 3) = nI s ∧ Tells cd L s wm c.2.2.2.1) ∧ ∃ s, s < L ∧ hd (6 * i + 4) = nI s ∧ Tells cd L s wm c.2.2.2.2.1)) ∧
    ((c.2.2.2.2.2.1 = 0 ∧ hd (6 * i + 5) = -1) ∨ (c.2.2.2.2.2.1 = 1 ∧ ∃ s, s < L ∧ hd (6 * i + 5) = nI s ∧ Tells cd L s wm c.2.2.2.2.2.2))
/-- the tokens of law t in a row of the model -/
def ktc (K : KT) (t : Nat) : Nat → Nat := fun k => if k < K (98 + t) then K (105 + 400 * t + k) else 0
def ktv (K : KT) (t : Nat) : Nat → Nat := fun k => if k < K (98 + t) then K (2905 + 400 * t + k) else 0
/-- the clauses of law t in a row of the model -/
def kcl (K : KT) (t : Nat) : Nat × Nat × List Cla := pTxt false (ktc K t) (ktv K t) (K (98 + t)) 12 0 0
/-- the text at b of the class tells law t -/
def LawAt (K : KT) (t : Nat) (lay : HL) (VI : VIT) (b : Nat) : Prop :=
  K (98 + t) ≤ 400 ∧ (kcl K t).1 = 1 ∧ 100 ≤ b ∧ lay[b]? = some (.inr 9) ∧ lay[b + 1]? = some (.inl (0, 72)) ∧ ∃ (L : Nat) (cd : Nat → Nat), L ≤ 896 ∧ lay[b + 2]? = some (.inl (0, L)) ∧ VI b 2 = nI (kcl K t).2.2.length ∧ (∀ k, k < L → cd k < 1000000 ∧ VI (b + 2) k = nI (cd k)) ∧ TextOf (VI (b + 1)) cd L lwm (kcl K t).2.2
/-- the laws of a world whose row of texts is at w -/
def Laws (K : KT) (w : Nat) (lay : HL) (VI : VIT) (VR : VRT) : Prop := ∀ t, t < K 96 → ∃ b, VR w t = .ref b ∧ VR b 0 = .ref (b + 1) ∧ VR b 1 = .ref (b + 2) ∧ LawAt K t lay VI b
set_option maxRecDepth 20000 in
theorem LawAt.same {K K' : KT} {t : Nat} {lay : HL} {ext : HL} {VI VI' : VIT} {b : Nat} (h : LawAt K t lay VI b) (hs : K' (98 + t) = K (98 + t)) (hc : ∀ k, k < 400 → K' (105 + 400 * t + k) = K (105 + 400 * t + k)) (hv : ∀ k, k < 400 → K' (2905 + 400 * t + k) = K (2905 + 400 * t + k)) (hV : ∀ a, 100 ≤ a → a < lay.length → VI' a = VI a) : LawAt K' t (lay ++ ext) VI' b := by
  obtain ⟨h1, h2, h3, h4, h5, L, cd, h6, h7, h8, h9, h10⟩ := h
  have e1 : ktc K' t = ktc K t := by
    funext k
    unfold ktc
    rw [hs]
    split
    · exact hc k (by omega)
    · rfl
  have e2 : ktv K' t = ktv K t := by
    funext k
    unfold ktv
    rw [hs]
    split
    · exact hv k (by omega)
    · rfl
  have e3 : kcl K' t = kcl K t := by unfold kcl; rw [e1, e2, hs]
  have l4 : b < lay.length := (List.getElem?_eq_some_iff.mp h4).1
  have l5 : b + 1 < lay.length := (List.getElem?_eq_some_iff.mp h5).1
  have l7 : b + 2 < lay.length := (List.getElem?_eq_some_iff.mp h7).1
  refine ⟨by rw [hs]; exact h1, by rw [e3]; exact h2, h3, by rw [List.getElem?_append_left l4]; exact h4, by rw [List.getElem?_append_left l5]; exact h5, L, cd, h6, by rw [List.getElem?_append_left l7]; exact h7, ?_, ?_, ?_⟩
  · rw [hV b h3 l4, e3]; exact h8
  · rw [hV (b + 2) (by omega) l7]; exact h9
  · rw [hV (b + 1) (by omega) l5, e3]; exact h10
set_option maxRecDepth 20000 in
theorem dNot2 (x : Den) : dNot (dNot x) = x := by
  funext e
  unfold dNot
  cases h : x e with
  | none => rfl
  | some a => simp; omega
