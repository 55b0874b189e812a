/-! THE ABSTRACT MACHINE: definitions -/
/-- an object: its numbers by field, its arrays by field (length, contents) -/
abbrev ab_Ob : Type := (Nat → Int) × (Nat → Int × (Int → Int))
/-- a value: int, long, object at a place, array of a field of an object, string constant -/
abbrev ab_V : Type := Int ⊕ (Int ⊕ (Nat ⊕ ((Nat × Nat) ⊕ Nat)))
abbrev ab_I (z : Int) : ab_V := .inl z
abbrev ab_L (z : Int) : ab_V := .inr (.inl z)
abbrev ab_O (o : Nat) : ab_V := .inr (.inr (.inl o))
abbrev ab_A (o f : Nat) : ab_V := .inr (.inr (.inr (.inl (o, f))))
abbrev ab_S (n : Nat) : ab_V := .inr (.inr (.inr (.inr n)))
/-- a method: name, code, locals, answer | classes of its world, where each comes from (argument, offset), which are written, moves arrays, makes cells, place of an answered object | static, class of the receiver, how many parameters -/
abbrev ab_M : Type := (MethodName × ByteArray × Nat × Option FieldType) × (List Nat × List (Nat × Nat) × List Bool × Bool × Bool × Nat) × (Bool × Nat × Nat)
abbrev ab_nm (M : ab_M) : MethodName := M.1.1
abbrev ab_cd (M : ab_M) : ByteArray := M.1.2.1
abbrev ab_ml (M : ab_M) : Nat := M.1.2.2.1
abbrev ab_rt (M : ab_M) : Option FieldType := M.1.2.2.2
abbrev ab_G (M : ab_M) : List Nat := M.2.1.1
abbrev ab_pt (M : ab_M) : List (Nat × Nat) := M.2.1.2.1
abbrev ab_wr (M : ab_M) : List Bool := M.2.1.2.2.1
abbrev ab_mv (M : ab_M) : Bool := M.2.1.2.2.2.1
abbrev ab_al (M : ab_M) : Bool := M.2.1.2.2.2.2.1
abbrev ab_rp (M : ab_M) : Nat := M.2.1.2.2.2.2.2
abbrev ab_st (M : ab_M) : Bool := M.2.2.1
abbrev ab_ci (M : ab_M) : Nat := M.2.2.2.1
abbrev ab_na (M : ab_M) : Nat := M.2.2.2.2
/-- a row of code: pc, instruction, length, three numbers, targets, callee -/
abbrev ab_R : Type := Nat × Instr × Nat × Nat × Nat × Nat × List Nat × Option ab_M
/-- kinds of fields: 0 int, 1 boolean, 2 long, 3 int[], 4 byte[], 5 long[], 6 boolean[], 7 + k the object k places further -/
def ab_lay : Nat → List Nat
  | 0 => [0, 3, 3, 3]
  | 1 => [0, 0, 3, 3]
  | 2 => [5]
  | 3 => [0, 3, 3, 3]
  | 4 => [0, 4, 0, 8, 1, 6, 0, 0, 0, 0, 0]
  | 5 => [0, 0, 0, 0, 3, 3, 3, 3, 3, 3]
  | 6 => [8, 9, 6, 3, 3, 3, 3]
  | 7 => [0, 0, 0, 3, 3, 3, 3, 3, 3, 3]
  | 8 => [0, 8, 10, 11, 12, 1, 13, 1, 14, 1, 15, 18, 1, 19, 20, 21, 22]
  | 9 => [0, 0, 0, 3, 3, 3, 0, 0, 0, 0, 0, 0, 0, 0, 1, 1, 4, 0, 0, 0, 0, 0, 0, 0, 2, 3, 3, 3, 3, 3, 5, 3, 3, 3, 3, 3, 3, 3, 3, 3, 0, 0, 3, 3, 3, 3, 3, 3, 3, 3, 3, 0]
  | 10 => [2]
  | _ => []
def ab_kd (ci f : Nat) : Nat := (ab_lay ci).getD f 0
abbrev ab_arr (k : Nat) : Prop := 3 ≤ k ∧ k ≤ 6
/-- what the strings are, by their numbers: their signs -/
def ab_str : Nat → List Int
  | 0 => [112, 105, 101, 99, 101]
  | 1 => [110, 111, 116, 101]
  | 2 => [114, 117, 108, 101]
  | 3 => [98, 97, 114]
  | 4 => [98, 101, 97, 116]
  | 5 => [107, 101, 121]
  | 6 => [108, 111, 110, 103]
  | 7 => [115, 116, 114, 111, 110, 103]
  | 8 => [115, 116, 97, 98, 108, 101]
  | 9 => [115, 116, 101, 112]
  | 10 => [101, 118, 101, 110]
  | 11 => [99, 108, 111, 115, 101]
  | _ => []
/-- small tables -/
def ab_at {α : Type} : List α → Nat → Option α
  | [], _ => none
  | x :: _, 0 => some x
  | _ :: l, n + 1 => ab_at l n
def ab_set {α : Type} : List α → Nat → α → List α
  | [], _, _ => []
  | _ :: l, 0, y => y :: l
  | x :: l, n + 1, y => x :: ab_set l n y
/-- a list laid out, then what goes on with it -/
def ab_frc {α : Type} : List α → (List α → Prop) → Prop
  | [], k => k []
  | x :: l, k => ab_frc l (fun l' => k (x :: l'))
def ab_up (f : Nat → Int) (k : Nat) (z : Int) : Nat → Int := fun j => if j = k then z else f j
def ab_ua (f : Nat → Int × (Int → Int)) (k : Nat) (a : Int × (Int → Int)) : Nat → Int × (Int → Int) := fun j => if j = k then a else f j
def ab_ui (f : Int → Int) (i z : Int) : Int → Int := fun j => if j = i then z else f j
/-- a number of an object is another one; an element of an array of it; an array of it -/
def ab_pf (ob : ab_Ob) (k : Nat) (z : Int) : ab_Ob := (ab_up ob.1 k z, ob.2)
def ab_pa (ob : ab_Ob) (k : Nat) (i z : Int) : ab_Ob := (ob.1, ab_ua ob.2 k ((ob.2 k).1, ab_ui (ob.2 k).2 i z))
def ab_pn (ob : ab_Ob) (k : Nat) (n : Int) : ab_Ob := (ob.1, ab_ua ob.2 k (n, fun _ => 0))
def ab_isL : Option ab_V → Bool
  | some (.inr (.inl _)) => true
  | _ => false
/-- a local of one word, of two words -/
def ab_kill (lv : List (Option ab_V)) : Nat → List (Option ab_V)
  | 0 => lv
  | i + 1 => match ab_at lv i with
    | some w => match ab_isL w with
      | true => ab_set lv i none
      | false => lv
    | none => lv
def ab_s1 (lv : List (Option ab_V)) (i : Nat) (v : ab_V) : List (Option ab_V) := ab_set (ab_kill lv i) i (some v)
def ab_s2 (lv : List (Option ab_V)) (i : Nat) (v : ab_V) : List (Option ab_V) := ab_set (ab_set (ab_kill lv i) (i + 1) none) i (some v)
def ab_cat : ab_V → Nat
  | .inr (.inl _) => 2
  | _ => 1
def ab_cats : List ab_V → Nat
  | [] => 0
  | v :: l => ab_cat v + ab_cats l
/-- no array is in hand -/
def ab_na0 : ab_V → Bool
  | .inr (.inr (.inr (.inl _))) => false
  | _ => true
def ab_nas : List ab_V → Bool
  | [] => true
  | v :: l => ab_na0 v && ab_nas l
def ab_nal : List (Option ab_V) → Bool
  | [] => true
  | none :: l => ab_nal l
  | some v :: l => ab_na0 v && ab_nal l
def ab_take : Nat → List ab_V → List ab_V → Option (List ab_V × List ab_V)
  | 0, acc, l => some (acc, l)
  | n + 1, acc, v :: l => ab_take n (v :: acc) l
  | _ + 1, _, [] => none
def ab_pls (as : List ab_V) : List (Nat × Nat) → Option (List Nat)
  | [] => some []
  | q :: qs => match ab_at as q.1, ab_pls as qs with
    | some (.inr (.inr (.inl o))), some l => some ((o + q.2) :: l)
    | _, _ => none
def ab_ix (o : Nat) : List Nat → Option Nat
  | [] => none
  | x :: l => match Nat.beq x o with
    | true => some 0
    | false => (ab_ix o l).map (· + 1)
def ab_ren (pl : List Nat) : ab_V → Option ab_V
  | .inr (.inr (.inl o)) => (ab_ix o pl).map ab_O
  | .inr (.inr (.inr (.inl _))) => none
  | v => some v
def ab_rens (pl : List Nat) : List ab_V → Option (List ab_V)
  | [] => some []
  | v :: l => match ab_ren pl v, ab_rens pl l with
    | some w, some r => some (w :: r)
    | _, _ => none
def ab_sub {α : Type} (l : List α) : List Nat → Option (List α)
  | [] => some []
  | p :: ps => match ab_at l p, ab_sub l ps with
    | some x, some r => some (x :: r)
    | _, _ => none
def ab_put {α : Type} (l : List α) : List Nat → List α → List α
  | p :: ps, x :: xs => ab_put (ab_set l p x) ps xs
  | _, _ => l
def ab_eqs : List Nat → List Nat → Bool
  | [], [] => true
  | x :: a, y :: b => Nat.beq x y && ab_eqs a b
  | _, _ => false
def ab_hasn (x : Nat) : List Nat → Bool
  | [] => false
  | y :: l => Nat.beq y x || ab_hasn x l
def ab_nd : List Nat → Bool
  | [] => true
  | x :: l => !(ab_hasn x l) && ab_nd l
def ab_back (pl : List Nat) : Option ab_V → List ab_V → Option (List ab_V)
  | none, r => some r
  | some (.inr (.inr (.inl q))), r => (ab_at pl q).map (fun o => ab_O o :: r)
  | some (.inr (.inr (.inr _))), _ => none
  | some v, r => some (v :: r)
/-- objects inside an object lie in both worlds at the same offsets -/
def ab_ck1 (pl : List Nat) (q p : Nat) : List Nat → Bool
  | [] => true
  | kd :: l => (match kd with
    | k + 7 => match ab_at pl (q + k) with
      | some p' => Nat.beq p' (p + k)
      | none => false
    | _ => true) && ab_ck1 pl q p l
def ab_ck2 (pl : List Nat) : Nat → List Nat → List Nat → Bool
  | q, p :: ps, c :: cs => ab_ck1 pl q p (ab_lay c) && ab_ck2 pl (q + 1) ps cs
  | _, [], [] => true
  | _, _, _ => false
def ab_seek (rows : List ab_R) (t : Nat) : List ab_R := match rows with
  | [] => []
  | r :: rs => match Nat.beq r.1 t with
    | true => r :: rs
    | false => ab_seek rs t
/-- what is left of the locals at a cut point -/
def ab_mask : List Bool → List (Option ab_V) → List (Option ab_V)
  | true :: bs, v :: l => v :: ab_mask bs l
  | false :: bs, _ :: l => none :: ab_mask bs l
  | _, l => l
def ab_stop : List (Nat × List Bool) → Nat → Option (List Bool)
  | [], _ => none
  | q :: l, pc => match Nat.beq q.1 pc with
    | true => some q.2
    | false => ab_stop l pc
abbrev ab_num (z : Int) (k : Prop) : Prop := (-2147483648 ≤ z ∧ z ≤ 2147483647) ∧ k
abbrev ab_lng (z : Int) (k : Prop) : Prop := (-9223372036854775808 ≤ z ∧ z ≤ 9223372036854775807) ∧ k
def ab_cmp (x y : Int) : Int := if y < x then 1 else if x = y then 0 else -1
def ab_i8 (x : Int) : Int := (Int8.ofInt x).toInt
/-- the answers of a callee, by their shapes -/
def ab_shr : Option FieldType → Nat → Option ab_V → Prop
  | none, _, rv => rv = none
  | some .long, _, rv => ∃ r : Int, rv = some (ab_L r)
  | some (.object _), p, rv => rv = some (ab_O p)
  | some _, _, rv => ∃ r : Int, rv = some (ab_I r)
def ab_shw : List Bool → List ab_Ob → List ab_Ob → Prop
  | [], [], l => l = []
  | true :: bs, _ :: os, l => ∃ x l', l = x :: l' ∧ ab_shw bs os l'
  | false :: bs, o :: os, l => ∃ l', l = o :: l' ∧ ab_shw bs os l'
  | _, _, _ => False
def ab_alW : List Bool → List ab_Ob → (List ab_Ob → Prop) → Prop
  | [], [], k => k []
  | true :: bs, _ :: os, k => ∀ x : ab_Ob, ab_alW bs os (fun l => k (x :: l))
  | false :: bs, o :: os, k => ab_alW bs os (fun l => k (o :: l))
  | _, _, _ => False
def ab_alR : Option FieldType → Nat → (Option ab_V → Prop) → Prop
  | none, _, k => k none
  | some .long, _, k => ∀ r : Int, k (some (ab_L r))
  | some (.object _), p, k => k (some (ab_O p))
  | some _, _, k => ∀ r : Int, k (some (ab_I r))
def ab_exA (kc ks mc ms : Nat) : Bool → (Nat → Nat → Prop) → Prop
  | false, k => k 0 0
  | true, k => ∃ mc' ms' : Nat, (kc + mc' ≤ mc ∧ ks + ms' ≤ ms) ∧ k mc' ms'
/-- the table's words that stay true -/
def ab_gw : List Jvm.Cond := lw_tbl.filter goodWord
def ab_ws (M : ab_M) : List Jvm.Cond := .code (ab_nm M) (ab_cd M) (ab_ml M) (ab_rt M) :: ab_gw
def ab_rm (d mc ms : Nat) : Room := { frames := d, cells := mc, slots := ms, locals := 37 * d }
/-- classes and array classes, the strings' addresses -/
abbrev ab_E : Type := va_G × (Nat → ClassId) × (Nat → Nat) × (Nat → Nat)
def ab_cv (ad : Nat → Nat → Nat) (ak : Nat → Nat) : ab_V → Value
  | .inl z => .int (Int32.ofInt z)
  | .inr (.inl z) => .long (Int64.ofInt z)
  | .inr (.inr (.inl o)) => .ref (ad o 0)
  | .inr (.inr (.inr (.inl q))) => .ref (ad q.1 (q.2 + 1))
  | .inr (.inr (.inr (.inr n))) => .ref (ak n)
def ab_okk (k : Nat) (z : Int) : Prop := match k with
  | 1 => z = 0 ∨ z = 1
  | 6 => z = 0 ∨ z = 1
  | 4 => -128 ≤ z ∧ z ≤ 127
  | 2 => -9223372036854775808 ≤ z ∧ z ≤ 9223372036854775807
  | 5 => -9223372036854775808 ≤ z ∧ z ≤ 9223372036854775807
  | _ => -2147483648 ≤ z ∧ z ≤ 2147483647
def ab_okv : ab_V → Prop
  | .inl z => ab_okk 0 z
  | .inr (.inl z) => ab_okk 2 z
  | _ => True
def ab_fv (ad : Nat → Nat → Nat) (o : Nat) (ob : ab_Ob) (f : Nat) : Nat → Value
  | 0 => .int (Int32.ofInt (ob.1 f))
  | 1 => .int (Int32.ofInt (ob.1 f))
  | 2 => .long (Int64.ofInt (ob.1 f))
  | 3 => .ref (ad o (f + 1))
  | 4 => .ref (ad o (f + 1))
  | 5 => .ref (ad o (f + 1))
  | 6 => .ref (ad o (f + 1))
  | k + 7 => .ref (ad (o + k) 0)
def ab_el (k : Nat) (z : Int) : Value := if k = 5 then .long (Int64.ofInt z) else .int (Int32.ofInt z)
def ab_ac (cA : ClassId) (k : Nat) (a : Int × (Int → Int)) : Cell := arrV cA a.1.toNat (fun j => ab_el k (a.2 j))
def ab_oko (ci : Nat) (ob : ab_Ob) : Prop := ∀ f : Nat, (¬ ab_arr (ab_kd ci f) → ab_kd ci f ≤ 2 → ab_okk (ab_kd ci f) (ob.1 f)) ∧ (ab_arr (ab_kd ci f) → 0 ≤ (ob.2 f).1 ∧ (ob.2 f).1 ≤ 2147483647 ∧ ∀ i : Int, ab_okk (ab_kd ci f) ((ob.2 f).2 i))
def ab_ob (E : ab_E) (ad : Nat → Nat → Nat) (o ci : Nat) (ob : ab_Ob) (H : Heap) : Prop :=
  t_OB (ad o 0) (E.1.1 ci) (ab_lay ci).length (E.1.2 ci) H (fun f => ab_fv ad o ob f (ab_kd ci f)) ∧ (∀ f : Nat, ab_arr (ab_kd ci f) → H[ad o (f + 1)]? = some (ab_ac (E.2.1 (ab_kd ci f)) (ab_kd ci f) (ob.2 f))) ∧ ab_oko ci ob
def ab_W (E : ab_E) (ad : Nat → Nat → Nat) (G : List Nat) (ws : List ab_Ob) (H : Heap) : Prop :=
  ws.length = G.length ∧ ∀ (o ci : Nat) (ob : ab_Ob), ab_at G o = some ci → ab_at ws o = some ob → ab_ob E ad o ci ob H
def ab_sl (G : List Nat) (o : Nat) : Nat → Prop
  | 0 => ∃ ci, ab_at G o = some ci
  | f + 1 => ∃ ci, ab_at G o = some ci ∧ ab_arr (ab_kd ci f)
def ab_ia (ad : Nat → Nat → Nat) (G : List Nat) (A : Nat → Prop) : Prop :=
  (∀ o f o' f' : Nat, ab_sl G o f → ab_sl G o' f' → ad o f = ad o' f' → o = o' ∧ f = f') ∧ ∀ o f : Nat, ab_sl G o f → A (ad o f)
def ab_rg (G : List Nat) (ad : Nat → Nat → Nat) (sz : Nat) : Nat → Prop := fun q => (∃ o f : Nat, ab_sl G o f ∧ ad o f = q) ∨ sz ≤ q
def ab_rel (mv : Bool) (ad0 ad : Nat → Nat → Nat) : Prop := (∀ o : Nat, ad o 0 = ad0 o 0) ∧ (mv = false → ∀ o f : Nat, ad o f = ad0 o f)
/-- the strings as the tables have them: class, entry, text, number -/
def ab_sts : List (String × Nat × String × Nat) := [("HeadTrees$Reader", 77, "piece", 0), ("HeadTrees$Reader", 96, "bar", 3), ("HeadTrees$Reader", 104, "beat", 4), ("HeadTrees$Reader", 108, "key", 5), ("HeadTrees$Reader", 86, "note", 1), ("HeadTrees$Reader", 115, "long", 6), ("HeadTrees$Reader", 91, "rule", 2), ("HeadTrees$Reader", 128, "strong", 7), ("HeadTrees$Reader", 130, "stable", 8), ("HeadTrees$Reader", 132, "step", 9), ("HeadTrees$Reader", 134, "even", 10), ("HeadTrees$Reader", 136, "close", 11), ("HeadTreesModel", 179, "piece", 0), ("HeadTreesModel", 194, "bar", 3), ("HeadTreesModel", 200, "beat", 4), ("HeadTreesModel", 205, "key", 5), ("HeadTreesModel", 184, "note", 1), ("HeadTreesModel", 211, "long", 6), ("HeadTreesModel", 189, "rule", 2), ("HeadTreesModel", 213, "strong", 7), ("HeadTreesModel", 215, "stable", 8), ("HeadTreesModel", 217, "step", 9), ("HeadTreesModel", 219, "even", 10), ("HeadTreesModel", 221, "close", 11)]
def ab_tys (E : ab_E) : List (ClassId × FieldType) := [(E.2.1 3, .int), (E.2.1 4, .byte), (E.2.1 5, .long), (E.2.1 6, .boolean)]
def ab_len : List Nat := [5, 4, 4, 3, 4, 3, 4, 6, 6, 4, 4, 5]
def ab_byt : List (List Int32) := [[112, 105, 101, 99, 101], [110, 111, 116, 101], [114, 117, 108, 101], [98, 97, 114], [98, 101, 97, 116], [107, 101, 121], [108, 111, 110, 103], [115, 116, 114, 111, 110, 103], [115, 116, 97, 98, 108, 101], [115, 116, 101, 112], [101, 118, 101, 110], [99, 108, 111, 115, 101]]
def ab_K (E : ab_E) (A : Nat → Prop) (U : State) (H : Heap) : Prop :=
  va_K E.1 vwCl (ab_tys E) U ∧ vk_S 12 ab_len ab_byt E.2.2.1 E.2.2.2 A U H ∧ (∀ q ∈ ab_sts, vk_R q.1 q.2.1 q.2.2.1 (E.2.2.1 q.2.2.2) U) ∧ va_Z "java/lang/String" "COMPACT_STRINGS" "Z" (.int 1) A U H ∧ va_Zq "jdk/internal/util/Preconditions" "SIOOBE_FORMATTER" "Ljava/util/function/BiFunction;" A U H
/-- what is behind a call -/
def ab_Q (E : ab_E) (ad0 : Nat → Nat → Nat) (sz : Nat) (M : ab_M) (Post : Option ab_V → List ab_Ob → Prop) : Array Value → State → Outcome → State → Prop := fun _ st oc t =>
  (∃ (rv : Option ab_V) (ws : List ab_Ob) (ad : Nat → Nat → Nat), oc = .returned (rv.map (ab_cv ad E.2.2.1)) ∧ Post rv ws ∧ (∀ v, rv = some v → ab_okv v) ∧ ab_W E ad (ab_G M) ws t.heap ∧ ab_rel (ab_mv M) ad0 ad ∧ ab_ia ad (ab_G M) (ab_rg (ab_G M) ad0 sz)) ∧ va_F (ab_rg (ab_G M) ad0 sz) st t
/-- what the tables say of a method -/
def ab_mok (M : ab_M) : Prop :=
  .code (ab_nm M) (ab_cd M) (ab_ml M) (ab_rt M) ∈ ab_gw ∧ .initialized (ab_nm M).cls ∈ ab_gw ∧ ((ab_nm M).cls ≠ "java/lang/invoke/MethodHandle" ∧ (ab_nm M).cls ≠ "java/lang/invoke/VarHandle" ∧ (parseMethodDescriptor (ab_nm M).desc).map (fun d => d.parameters.length) = some (ab_na M)) ∧ ab_ml M ≤ 18 ∧
  (if ab_st M = true then .static (ab_nm M) ∈ ab_gw else (.instanceMethod (ab_nm M) ∈ ab_gw ∧ .selects (ab_nm M).cls (ab_nm M) (ab_nm M) ∈ ab_gw ∧ ((∃ T N, vwCl[ab_ci M]? = some ((ab_nm M).cls, T, N)) ∨ (ab_ci M = 100 ∧ (ab_nm M).cls = "java/lang/String"))))
/-- a call of M returns, with what Post says -/
def ab_WC (d mc ms : Nat) (M : ab_M) (as : List ab_V) (ws : List ab_Ob) (Post : Option ab_V → List ab_Ob → Prop) : Prop :=
  ab_mok M ∧ ∀ (l : Launch) (E : ab_E) (ad : Nat → Nat → Nat) (sz : Nat), (∀ v ∈ as, ab_okv v) →
    Met l (ab_nm M) (ab_ws M) (ab_rm d mc ms) (va_Pc (as.map (ab_cv ad E.2.2.1)) (fun U => U.heap.size = sz ∧ ab_W E ad (ab_G M) ws U.heap ∧ ab_ia ad (ab_G M) (fun _ => True) ∧ ab_K E (ab_rg (ab_G M) ad sz) U U.heap)) (ab_Q E ad sz M Post) mc ms (ab_rg (ab_G M) ad sz)
/-- a call of M: its answer and its world are so -/
def ab_Ct (d mc ms : Nat) (M : ab_M) (as : List ab_V) (ws : List ab_Ob) (Q : Option ab_V → List ab_Ob → Prop) : Prop :=
  ab_WC d mc ms M as ws (fun r w => (ab_shr (ab_rt M) (ab_rp M) r ∧ ab_shw (ab_wr M) ws w) ∧ Q r w)
abbrev ab_KT : Type := List ab_R → List (Option ab_V) → List ab_V → List ab_Ob → Nat → Nat → Prop
def ab_sw (x : Int) (hi : Int) : Int → List Nat → (Nat → Prop) → Prop
  | _, [], _ => True
  | v, t :: ts, k => (x = v → k t) ∧ ab_sw x hi (v + 1) ts k
def ab_ldI (lv : List (Option ab_V)) (i : Nat) (k : ab_V → Prop) : Prop := match ab_at lv i with
  | some (some (.inl z)) => k (.inl z)
  | _ => False
def ab_ldL (lv : List (Option ab_V)) (i : Nat) (k : ab_V → Prop) : Prop := match ab_at lv i with
  | some (some (.inr (.inl z))) => k (.inr (.inl z))
  | _ => False
def ab_ldA (lv : List (Option ab_V)) (i : Nat) (k : ab_V → Prop) : Prop := match ab_at lv i with
  | some (some (.inr (.inr r))) => k (.inr (.inr r))
  | _ => False
def ab_if (cn : Jvm.ClassFile.Cond) (x y : Int) (kt kf : Prop) : Prop := match cn with
  | .eq => (x = y → kt) ∧ (¬ x = y → kf)
  | .ne => (¬ x = y → kt) ∧ (x = y → kf)
  | .lt => (x < y → kt) ∧ (¬ x < y → kf)
  | .ge => (y ≤ x → kt) ∧ (¬ y ≤ x → kf)
  | .gt => (y < x → kt) ∧ (¬ y < x → kf)
  | .le => (x ≤ y → kt) ∧ (¬ x ≤ y → kf)
def ab_ald (G : List Nat) (ws : List ab_Ob) (o f : Nat) (i : Int) (q : Nat → Bool) (k : Nat → Int → Prop) : Prop := match ab_at G o, ab_at ws o with
  | some ci, some ob => match q (ab_kd ci f) with
    | true => (0 ≤ i ∧ i < (ob.2 f).1) ∧ k (ab_kd ci f) ((ob.2 f).2 i)
    | false => False
  | _, _ => False
def ab_ast (G : List Nat) (ws : List ab_Ob) (o f : Nat) (i : Int) (q : Nat → Bool) (k : Nat → (Int → List ab_Ob) → Prop) : Prop := match ab_at G o, ab_at ws o with
  | some ci, some ob => match q (ab_kd ci f) with
    | true => (0 ≤ i ∧ i < (ob.2 f).1) ∧ k (ab_kd ci f) (fun z => ab_set ws o (ab_pa ob f i z))
    | false => False
  | _, _ => False
def ab_getf (G : List Nat) (ws : List ab_Ob) (o a f : Nat) (k : ab_V → Prop) : Prop := match ab_at G o, ab_at ws o with
  | some ci, some ob => match Nat.beq ci a with
    | true => match ab_kd ci f with
      | 0 => k (.inl (ob.1 f))
      | 1 => k (.inl (ob.1 f))
      | 2 => k (.inr (.inl (ob.1 f)))
      | 3 => k (ab_A o f)
      | 4 => k (ab_A o f)
      | 5 => k (ab_A o f)
      | 6 => k (ab_A o f)
      | j + 7 => k (ab_O (o + j))
    | false => False
  | _, _ => False
def ab_putf (G : List Nat) (ws : List ab_Ob) (o a f : Nat) (v : ab_V) (k : List ab_Ob → Prop) : Prop := match ab_at G o, ab_at ws o with
  | some ci, some ob => match Nat.beq ci a with
    | true => match ab_kd ci f, v with
      | 0, .inl z => ab_frc (ab_set ws o (ab_pf ob f z)) k
      | 1, .inl z => (z = 0 ∨ z = 1) ∧ ab_frc (ab_set ws o (ab_pf ob f z)) k
      | 2, .inr (.inl z) => ab_frc (ab_set ws o (ab_pf ob f z)) k
      | _, _ => False
    | false => False
  | _, _ => False
def ab_newf (G : List Nat) (ws : List ab_Ob) (o a f : Nat) (n : Int) (q : Nat → Bool) (k : List ab_Ob → Prop) : Prop := match ab_at G o, ab_at ws o with
  | some ci, some ob => match Nat.beq ci a && q (ab_kd ci f) with
    | true => ab_frc (ab_set ws o (ab_pn ob f n)) k
    | false => False
  | _, _ => False
def ab_isN (t k : Nat) : Bool := Nat.beq k t
def ab_isB (k : Nat) : Bool := Nat.beq k 4 || Nat.beq k 6
def ab_atk : ArrayType → Nat
  | .int => 3
  | .byte => 4
  | .long => 5
  | .boolean => 6
  | _ => 0
def ab_inv0 (G : List Nat) (d mc ms : Nat) (mv : Bool) (K : ab_KT) (M : ab_M) (rs : List ab_R) (lv : List (Option ab_V)) (as rest : List ab_V) (ws : List ab_Ob) (kc ks : Nat) : Prop :=
  match ab_pls as (ab_pt M) with
  | none => False
  | some pl => match ab_rens pl as, ab_sub ws pl, ab_sub G pl with
    | some as', some ws', some G' => match ab_nd pl && (ab_eqs G' (ab_G M) && (ab_ck2 pl 0 pl G' && (Nat.ble (ab_cats rest) 8 && (!(ab_mv M) || (mv && (ab_nas rest && ab_nal lv)))))) with
      | true => ab_exA kc ks mc ms (ab_al M) fun mc' ms' => ∃ Q : Option ab_V → List ab_Ob → Prop, ab_Ct d mc' ms' M as' ws' Q ∧ ab_alR (ab_rt M) (ab_rp M) fun rv => ab_alW (ab_wr M) ws' fun ws'' => Q rv ws'' →
          match ab_back pl rv rest with
          | some st => ab_frc (ab_put ws pl ws'') fun ws3 => K rs lv st ws3 (kc + mc') (ks + ms')
          | none => False
      | false => False
    | _, _, _ => False
/-- a method of the object at place 0 that has the same world: its call is shorter -/
def ab_g8 : List Nat := [8, 4, 5, 5, 0, 1, 2, 7, 6, 1, 7, 7, 7, 7, 3, 3]
def ab_p16 : List Nat := [0, 1, 2, 3, 4, 5, 6, 7, 8, 9, 10, 11, 12, 13, 14, 15]
def ab_ptB : Nat → List (Nat × Nat) → Bool
  | n, q :: qs => Nat.beq q.1 0 && (Nat.beq q.2 n && ab_ptB (n + 1) qs)
  | n, [] => Nat.beq n 16
def ab_l16 : Nat → List ab_Ob → Bool
  | n + 1, _ :: l => ab_l16 n l
  | 0, [] => true
  | _, _ => false
def ab_fsB : List ab_V → Bool
  | [] => true
  | .inl _ :: l => ab_fsB l
  | .inr (.inl _) :: l => ab_fsB l
  | .inr (.inr (.inl o)) :: l => Nat.ble (o + 1) 16 && ab_fsB l
  | _ => false
def ab_fsA : List ab_V → Bool
  | .inr (.inr (.inl o)) :: l => Nat.beq o 0 && ab_fsB l
  | _ => false
def ab_fst (G : List Nat) (M : ab_M) (as : List ab_V) (ws : List ab_Ob) : Bool := Nat.beq (ab_ci M) 8 && (ab_fsA as && (ab_eqs G ab_g8 && (ab_eqs (ab_G M) ab_g8 && (ab_ptB 0 (ab_pt M) && ab_l16 16 ws))))
def ab_inv1 (d mc ms : Nat) (mv : Bool) (K : ab_KT) (M : ab_M) (rs : List ab_R) (lv : List (Option ab_V)) (as rest : List ab_V) (ws : List ab_Ob) (kc ks : Nat) : Prop :=
  match Nat.ble (ab_cats rest) 8 && (!(ab_mv M) || (mv && (ab_nas rest && ab_nal lv))) with
  | true => ab_exA kc ks mc ms (ab_al M) fun mc' ms' => ∃ Q : Option ab_V → List ab_Ob → Prop, ab_Ct d mc' ms' M as ws Q ∧ ab_alR (ab_rt M) (ab_rp M) fun rv => ab_alW (ab_wr M) ws fun ws'' => Q rv ws'' →
      match ab_back ab_p16 rv rest with
      | some st => K rs lv st ws'' (kc + mc') (ks + ms')
      | none => False
  | false => False
def ab_inv (G : List Nat) (d mc ms : Nat) (mv : Bool) (K : ab_KT) (M : ab_M) (rs : List ab_R) (lv : List (Option ab_V)) (as rest : List ab_V) (ws : List ab_Ob) (kc ks : Nat) : Prop :=
  match ab_fst G M as ws with
  | true => ab_inv1 d mc ms mv K M rs lv as rest ws kc ks
  | false => ab_inv0 G d mc ms mv K M rs lv as rest ws kc ks
/-! stack helpers -/
def ab_pI : List ab_V → (Int → List ab_V → Prop) → Prop
  | .inl z :: st, k => k z st
  | _, _ => False
def ab_pL : List ab_V → (Int → List ab_V → Prop) → Prop
  | .inr (.inl z) :: st, k => k z st
  | _, _ => False
def ab_pR : List ab_V → (Nat ⊕ ((Nat × Nat) ⊕ Nat) → List ab_V → Prop) → Prop
  | .inr (.inr z) :: st, k => k z st
  | _, _ => False
def ab_pO : List ab_V → (Nat → List ab_V → Prop) → Prop
  | .inr (.inr (.inl o)) :: st, k => k o st
  | _, _ => False
def ab_pA : List ab_V → (Nat → Nat → List ab_V → Prop) → Prop
  | .inr (.inr (.inr (.inl q))) :: st, k => k q.1 q.2 st
  | _, _ => False
def ab_pY : List ab_V → (ab_V → List ab_V → Prop) → Prop
  | v :: st, k => k v st
  | _, _ => False
def ab_pV : List ab_V → (ab_V → List ab_V → Prop) → Prop
  | v :: st, k => match ab_cat v with
    | 1 => k v st
    | _ => False
  | _, _ => False
def ab_nil : List ab_V → Prop → Prop
  | [], k => k
  | _, _ => False
def ab_one : List Nat → (Nat → Prop) → Prop
  | [t], k => k t
  | _, _ => False
def ab_hd : List Nat → (Nat → List Nat → Prop) → Prop
  | t :: ts, k => k t ts
  | _, _ => False
def ab_sel : Nat → Prop → Prop → Prop
  | 0, a, _ => a
  | _ + 1, _, b => b
def ab_imth (c : Nat) (p10 p11 p12 p13 p0 : Prop) : Prop := match c with
  | 10 => p10
  | 11 => p11
  | 12 => p12
  | 13 => p13
  | 0 => p0
  | _ => False
def ab_iinc (lv : List (Option ab_V)) (i : Nat) (k : Int → Prop) : Prop := match ab_at lv i with
  | some (some (.inl z)) => k z
  | _ => False
def ab_pnx : Bool → List ab_R → (Nat → Nat → List ab_R → Prop) → Prop
  | true, (_, .putfield _, _, a, f, _, _, _) :: rs2, k => k a f rs2
  | _, _, _ => False
def ab_bst (kd : Nat) (x : Int) (k : Int → Prop) : Prop := match kd with
  | 4 => k (ab_i8 x)
  | _ => (x = 0 ∨ x = 1) ∧ k x
def ab_aln (G : List Nat) (ws : List ab_Ob) (o f : Nat) (k : Int → Prop) : Prop := match ab_at G o, ab_at ws o with
  | some ci, some ob => match Nat.ble 3 (ab_kd ci f) && Nat.ble (ab_kd ci f) 6 with
    | true => k (ob.2 f).1
    | false => False
  | _, _ => False
def ab_irt (rt : Option FieldType) (z : Int) (k : Prop) : Prop := match rt with
  | some .int => k
  | some .boolean => (z = 0 ∨ z = 1) ∧ k
  | _ => False
def ab_lrt (rt : Option FieldType) (k : Prop) : Prop := match rt with
  | some .long => k
  | _ => False
def ab_art (rt : Option FieldType) (k : Prop) : Prop := match rt with
  | some (.object _) => k
  | _ => False
def ab_vrt (rt : Option FieldType) (k : Prop) : Prop := match rt with
  | none => k
  | _ => False
def ab_le8 (st : List ab_V) (k : Prop) : Prop := match Nat.ble (ab_cats st) 8 with
  | true => k
  | false => False
def ab_vir (G : List Nat) (Mo : Option ab_M) (st : List ab_V) (k : ab_M → List ab_V → List ab_V → Prop) : Prop := match Mo with
  | some M => match ab_st M, ab_take (ab_na M + 1) [] st with
    | false, some (.inr (.inr (.inl o)) :: as, rest) => match ab_at G o with
      | some ci => match Nat.beq ci (ab_ci M) && Nat.blt ci 10 with
        | true => k M (.inr (.inr (.inl o)) :: as) rest
        | false => False
      | none => False
    | false, some (.inr (.inr (.inr (.inr n))) :: as, rest) => match Nat.beq (ab_ci M) 100 with
      | true => n < 12 ∧ k M (.inr (.inr (.inr (.inr n))) :: as) rest
      | false => False
    | _, _ => False
  | none => False
def ab_sta (Mo : Option ab_M) (st : List ab_V) (k : ab_M → List ab_V → List ab_V → Prop) : Prop := match Mo with
  | some M => match ab_st M, ab_take (ab_na M) [] st with
    | true, some (as, rest) => k M as rest
    | _, _ => False
  | none => False
/-- one instruction -/
def ab_step (G : List Nat) (rows : List ab_R) (d mc ms : Nat) (mv : Bool) (rt : Option FieldType) (Post : Option ab_V → List ab_Ob → Prop) (K : ab_KT) (r : ab_R) (rs : List ab_R) (lv : List (Option ab_V)) (st : List ab_V) (ws : List ab_Ob) (kc ks : Nat) : Prop :=
  match r.2.1 with
  | .iconst z => K rs lv (.inl z :: st) ws kc ks
  | .bipush z => K rs lv (.inl z :: st) ws kc ks
  | .sipush z => K rs lv (.inl z :: st) ws kc ks
  | .ldc i => ab_sel r.2.2.2.2.2.1 (K rs lv (.inl (r.2.2.2.2.1 : Nat) :: st) ws kc ks) (K rs lv (ab_S r.2.2.2.2.1 :: st) ws kc ks)
  | .ldc_w i => K rs lv (.inl (r.2.2.2.2.1 : Nat) :: st) ws kc ks
  | .ldc2_w i => K rs lv (.inr (.inl (r.2.2.2.2.1 : Nat)) :: st) ws kc ks
  | .lconst z => K rs lv (.inr (.inl (z : Nat)) :: st) ws kc ks
  | .iload i => ab_ldI lv i fun v => K rs lv (v :: st) ws kc ks
  | .iload_n i => ab_ldI lv i fun v => K rs lv (v :: st) ws kc ks
  | .lload i => ab_ldL lv i fun v => K rs lv (v :: st) ws kc ks
  | .lload_n i => ab_ldL lv i fun v => K rs lv (v :: st) ws kc ks
  | .aload i => ab_ldA lv i fun v => K rs lv (v :: st) ws kc ks
  | .aload_n i => ab_ldA lv i fun v => K rs lv (v :: st) ws kc ks
  | .istore i => ab_pI st fun z st => ab_frc (ab_s1 lv i (.inl z)) fun lv1 => K rs lv1 st ws kc ks
  | .istore_n i => ab_pI st fun z st => ab_frc (ab_s1 lv i (.inl z)) fun lv1 => K rs lv1 st ws kc ks
  | .lstore i => ab_pL st fun z st => ab_frc (ab_s2 lv i (.inr (.inl z))) fun lv1 => K rs lv1 st ws kc ks
  | .lstore_n i => ab_pL st fun z st => ab_frc (ab_s2 lv i (.inr (.inl z))) fun lv1 => K rs lv1 st ws kc ks
  | .astore i => ab_pR st fun z st => ab_frc (ab_s1 lv i (.inr (.inr z))) fun lv1 => K rs lv1 st ws kc ks
  | .astore_n i => ab_pR st fun z st => ab_frc (ab_s1 lv i (.inr (.inr z))) fun lv1 => K rs lv1 st ws kc ks
  | .iinc i n => ab_iinc lv i fun z => ab_num (z + n) (ab_frc (ab_s1 lv i (.inl (z + n))) fun lv1 => K rs lv1 st ws kc ks)
  | .iadd => ab_pI st fun y st => ab_pI st fun x st => ab_num (x + y) (K rs lv (.inl (x + y) :: st) ws kc ks)
  | .isub => ab_pI st fun y st => ab_pI st fun x st => ab_num (x - y) (K rs lv (.inl (x - y) :: st) ws kc ks)
  | .imul => ab_pI st fun y st => ab_pI st fun x st => ab_num (x * y) (K rs lv (.inl (x * y) :: st) ws kc ks)
  | .ineg => ab_pI st fun x st => ab_num (-x) (K rs lv (.inl (-x) :: st) ws kc ks)
  | .idiv => ab_pI st fun y st => ab_pI st fun x st => (¬ y = 0) ∧ ab_num (x.tdiv y) (K rs lv (.inl (x.tdiv y) :: st) ws kc ks)
  | .irem => ab_pI st fun y st => ab_pI st fun x st => (¬ y = 0) ∧ ab_num (x.tmod y) (K rs lv (.inl (x.tmod y) :: st) ws kc ks)
  | .iand => ab_pI st fun y st => ab_pI st fun x st => K rs lv (.inl (Int32.ofInt x &&& Int32.ofInt y).toInt :: st) ws kc ks
  | .ior => ab_pI st fun y st => ab_pI st fun x st => K rs lv (.inl (Int32.ofInt x ||| Int32.ofInt y).toInt :: st) ws kc ks
  | .ixor => ab_pI st fun y st => ab_pI st fun x st => K rs lv (.inl (Int32.ofInt x ^^^ Int32.ofInt y).toInt :: st) ws kc ks
  | .ishl => ab_pI st fun y st => ab_pI st fun x st => K rs lv (.inl (Int32.ofInt x <<< (Int32.ofInt y &&& 31)).toInt :: st) ws kc ks
  | .ishr => ab_pI st fun y st => ab_pI st fun x st => K rs lv (.inl (Int32.ofInt x >>> (Int32.ofInt y &&& 31)).toInt :: st) ws kc ks
  | .i2b => ab_pI st fun x st => K rs lv (.inl (ab_i8 x) :: st) ws kc ks
  | .i2l => ab_pI st fun x st => K rs lv (.inr (.inl x) :: st) ws kc ks
  | .ladd => ab_pL st fun y st => ab_pL st fun x st => ab_lng (x + y) (K rs lv (.inr (.inl (x + y)) :: st) ws kc ks)
  | .lmul => ab_pL st fun y st => ab_pL st fun x st => ab_lng (x * y) (K rs lv (.inr (.inl (x * y)) :: st) ws kc ks)
  | .ldiv => ab_pL st fun y st => ab_pL st fun x st => (¬ y = 0) ∧ ab_lng (x.tdiv y) (K rs lv (.inr (.inl (x.tdiv y)) :: st) ws kc ks)
  | .lor => ab_pL st fun y st => ab_pL st fun x st => K rs lv (.inr (.inl (Int64.ofInt x ||| Int64.ofInt y).toInt) :: st) ws kc ks
  | .lshl => ab_pI st fun y st => ab_pL st fun x st => K rs lv (.inr (.inl (Int64.ofInt x <<< ((Int32.ofInt y).toInt64 &&& 63)).toInt) :: st) ws kc ks
  | .lcmp => ab_pL st fun y st => ab_pL st fun x st => K rs lv (.inl (ab_cmp x y) :: st) ws kc ks
  | .dup => ab_pV st fun v st => K rs lv (v :: v :: st) ws kc ks
  | .pop => ab_pV st fun _ st => K rs lv st ws kc ks
  | .dup2 => ab_pV st fun v st => ab_pV st fun w st => K rs lv (v :: w :: v :: w :: st) ws kc ks
  | .ifCond cn off => ab_pI st fun x st => ab_one r.2.2.2.2.2.2.1 fun t => ab_if cn x 0 (K (ab_seek rows t) lv st ws kc ks) (K rs lv st ws kc ks)
  | .if_icmp cn off => ab_pI st fun y st => ab_pI st fun x st => ab_one r.2.2.2.2.2.2.1 fun t => ab_if cn x y (K (ab_seek rows t) lv st ws kc ks) (K rs lv st ws kc ks)
  | .goto off => ab_one r.2.2.2.2.2.2.1 fun t => K (ab_seek rows t) lv st ws kc ks
  | .tableswitch dflt lo hi offs => ab_pI st fun x st => ab_hd r.2.2.2.2.2.2.1 fun t ts => (x < lo ∨ hi < x → K (ab_seek rows t) lv st ws kc ks) ∧ ab_sw x hi lo ts (fun t => K (ab_seek rows t) lv st ws kc ks)
  | .getfield i => ab_pO st fun o st => ab_getf G ws o r.2.2.2.1 r.2.2.2.2.1 fun v => K rs lv (v :: st) ws kc ks
  | .putfield i => ab_pY st fun v st => ab_pO st fun o st => ab_putf G ws o r.2.2.2.1 r.2.2.2.2.1 v fun ws' => K rs lv st ws' kc ks
  | .newarray ty => ab_pI st fun n st => ab_pO st fun o st => ab_pnx (mv && (ab_nas st && ab_nal lv)) rs fun a f rs2 => (0 ≤ n ∧ n ≤ 100000) ∧ (kc + 1 ≤ mc ∧ ks + n.toNat ≤ ms) ∧ ab_newf G ws o a f n (ab_isN (ab_atk ty)) fun ws' => K rs2 lv st ws' (kc + 1) (ks + n.toNat)
  | .iaload => ab_pI st fun i st => ab_pA st fun o f st => ab_ald G ws o f i (ab_isN 3) fun _ z => K rs lv (.inl z :: st) ws kc ks
  | .baload => ab_pI st fun i st => ab_pA st fun o f st => ab_ald G ws o f i ab_isB fun _ z => K rs lv (.inl z :: st) ws kc ks
  | .laload => ab_pI st fun i st => ab_pA st fun o f st => ab_ald G ws o f i (ab_isN 5) fun _ z => K rs lv (.inr (.inl z) :: st) ws kc ks
  | .iastore => ab_pI st fun x st => ab_pI st fun i st => ab_pA st fun o f st => ab_ast G ws o f i (ab_isN 3) fun _ w => ab_frc (w x) fun ws1 => K rs lv st ws1 kc ks
  | .lastore => ab_pL st fun x st => ab_pI st fun i st => ab_pA st fun o f st => ab_ast G ws o f i (ab_isN 5) fun _ w => ab_frc (w x) fun ws1 => K rs lv st ws1 kc ks
  | .bastore => ab_pI st fun x st => ab_pI st fun i st => ab_pA st fun o f st => ab_ast G ws o f i ab_isB fun k w => ab_bst k x fun z => ab_frc (w z) fun ws1 => K rs lv st ws1 kc ks
  | .arraylength => ab_pA st fun o f st => ab_aln G ws o f fun n => K rs lv (.inl n :: st) ws kc ks
  | .ireturn => ab_pI st fun z st => ab_nil st (ab_irt rt z (Post (some (.inl z)) ws))
  | .lreturn => ab_pL st fun z st => ab_nil st (ab_lrt rt (Post (some (.inr (.inl z))) ws))
  | .areturn => ab_pO st fun o st => ab_nil st (ab_art rt (Post (some (ab_O o)) ws))
  | .return_ => ab_nil st (ab_vrt rt (Post none ws))
  | .invokevirtual i => ab_vir G r.2.2.2.2.2.2.2 st fun M as rest => ab_inv G d mc ms mv K M rs lv as rest ws kc ks
  | .invokestatic i => ab_imth r.2.2.2.2.2.1 (ab_pI st fun y st => ab_pI st fun x st => ab_le8 st (K rs lv (.inl (if x < y then y else x) :: st) ws kc ks)) (ab_pI st fun y st => ab_pI st fun x st => ab_le8 st (K rs lv (.inl (if y < x then y else x) :: st) ws kc ks)) (ab_pI st fun x st => ab_le8 st (ab_num (-x) (K rs lv (.inl (if 0 ≤ x then x else 0 - x) :: st) ws kc ks))) (ab_pL st fun y st => ab_pL st fun x st => ab_le8 st (K rs lv (.inr (.inl (if y < x then y else x)) :: st) ws kc ks)) (ab_sta r.2.2.2.2.2.2.2 st fun M as rest => ab_inv G d mc ms mv K M rs lv as rest ws kc ks)
  | _ => False
def ab_nx (stops : List (Nat × List Bool)) (leaf : Nat → List (Option ab_V) → List ab_V → List ab_Ob → Nat → Nat → Prop) (K : ab_KT) : ab_KT := fun rs lv st ws kc ks => match rs with
  | [] => False
  | r :: rs => match ab_stop stops r.1 with
    | some bs => leaf r.1 (ab_mask bs lv) st ws kc ks
    | none => K (r :: rs) lv st ws kc ks
def ab_wp (G : List Nat) (rows : List ab_R) (stops : List (Nat × List Bool)) (d mc ms : Nat) (mv : Bool) (rt : Option FieldType) (leaf : Nat → List (Option ab_V) → List ab_V → List ab_Ob → Nat → Nat → Prop) (Post : Option ab_V → List ab_Ob → Prop) : Nat → ab_KT
  | 0, _, _, _, _, _, _ => False
  | _ + 1, [], _, _, _, _, _ => False
  | n + 1, r :: rs, lv, st, ws, kc, ks => ab_step G rows d mc ms mv rt Post (ab_nx stops leaf (ab_wp G rows stops d mc ms mv rt leaf Post n)) r rs lv st ws kc ks
