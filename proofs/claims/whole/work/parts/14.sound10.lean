/-! SOUNDNESS, tenth part: rows that are right, one step, many steps -/
def ab_lk (w : Jvm.Cond) (p : Nat) : Bool := decide (lw_tbl[p]? = some w) && goodWord w
theorem ab_lk_in {w : Jvm.Cond} {p : Nat} (h : ab_lk w p = true) : w ∈ ab_gw := by
  obtain ⟨h1, h2⟩ := (Bool.and_eq_true _ _).mp h
  exact List.mem_filter.mpr ⟨List.mem_of_getElem? (of_decide_eq_true h1), h2⟩
def ab_fl (own : String) (i a f p : Nat) : Bool := decide (a < 10) && (decide (f < (ab_lay a).length) && ab_lk (.fieldLink own i (ab_T a f).1 (ab_T a f).2.1 (ab_T a f).2.2.1) p)
def ab_tx (own : String) (i n : Nat) : Bool := ab_sts.any (fun q => decide (q.1 = own) && (decide (q.2.1 = i) && decide (q.2.2.2 = n)))
/-! row helpers -/
def ab_tg (pc : Nat) (off : Int) (ts : List Nat) : Bool := match ts with
  | [t] => decide ((pc : Int) + off = (t : Int))
  | _ => false
def ab_tsw (pc : Nat) (dflt lo hi : Int) (offs : List Int) (ts : List Nat) : Bool := match ts with
  | t :: ts => decide ((pc : Int) + dflt = (t : Int) ∧ offs.map (fun o => (pc : Int) + o) = ts.map (fun t : Nat => (t : Int)) ∧ hi = lo + (ts.length : Int) - 1)
  | _ => false
def ab_ldB (own : String) (i b c p : Nat) : Bool := match c with
  | 0 => decide (b ≤ 2147483647) && ab_lk (.constant own i (Int32.ofInt (b : Nat))) p
  | _ + 1 => ab_tx own i b
def ab_nfin (rs : List ab_R) : Bool := match rs with
  | r2 :: _ => !(ab_T r2.2.2.2.1 r2.2.2.2.2.1).2.2.2
  | [] => false
def ab_ml1 (own : String) (i : Nat) (Mo : Option ab_M) (p : Nat) : Bool := match Mo with
  | some M' => ab_lk (.methodLink own i (ab_nm M')) p
  | none => false
def ab_ml2 (own : String) (i : Nat) (c : Nat) (Mo : Option ab_M) (p : Nat) : Bool := match c with
  | 10 => ab_lk (.methodLink own i Lib.Math.max.name) p
  | 11 => ab_lk (.methodLink own i Lib.Math.min.name) p
  | 12 => ab_lk (.methodLink own i Lib.Math.abs.name) p
  | 13 => ab_lk (.methodLink own i Lib.MathLoose.min_long.x) p
  | _ => ab_ml1 own i Mo p
/-- is this row right? -/
def ab_rowC (M : ab_M) (r : ab_R) (p : Nat) (rs : List ab_R) : Bool := match r.2.1 with
  | .iconst z => decide (r.2.2.1 = 1 ∧ -1 ≤ z ∧ z ≤ 5)
  | .bipush z => decide (r.2.2.1 = 2 ∧ -128 ≤ z ∧ z ≤ 127)
  | .sipush z => decide (r.2.2.1 = 3 ∧ -32768 ≤ z ∧ z ≤ 32767)
  | .ldc i => decide (r.2.2.1 = 2) && ab_ldB (ab_nm M).cls i r.2.2.2.2.1 r.2.2.2.2.2.1 p
  | .ldc_w i => decide (r.2.2.1 = 3) && (decide (r.2.2.2.2.1 ≤ 2147483647) && ab_lk (.constant (ab_nm M).cls i (Int32.ofInt (r.2.2.2.2.1 : Nat))) p)
  | .ldc2_w i => decide (r.2.2.1 = 3) && (decide (r.2.2.2.2.1 ≤ 9223372036854775807) && ab_lk (.constantLong (ab_nm M).cls i (Int64.ofInt (r.2.2.2.2.1 : Nat))) p)
  | .lconst z => decide (r.2.2.1 = 1)
  | .iload i => decide (r.2.2.1 = 2)
  | .iload_n i => decide (r.2.2.1 = 1)
  | .lload i => decide (r.2.2.1 = 2)
  | .lload_n i => decide (r.2.2.1 = 1)
  | .aload i => decide (r.2.2.1 = 2)
  | .aload_n i => decide (r.2.2.1 = 1)
  | .istore i => decide (r.2.2.1 = 2 ∧ i < ab_ml M)
  | .istore_n i => decide (r.2.2.1 = 1 ∧ (i : Nat) < ab_ml M)
  | .lstore i => decide (r.2.2.1 = 2 ∧ i + 1 < ab_ml M)
  | .lstore_n i => decide (r.2.2.1 = 1 ∧ (i : Nat) + 1 < ab_ml M)
  | .astore i => decide (r.2.2.1 = 2 ∧ i < ab_ml M)
  | .astore_n i => decide (r.2.2.1 = 1 ∧ (i : Nat) < ab_ml M)
  | .iinc i n => decide (r.2.2.1 = 3 ∧ i < ab_ml M)
  | .iadd => decide (r.2.2.1 = 1)
  | .isub => decide (r.2.2.1 = 1)
  | .imul => decide (r.2.2.1 = 1)
  | .ineg => decide (r.2.2.1 = 1)
  | .idiv => decide (r.2.2.1 = 1)
  | .irem => decide (r.2.2.1 = 1)
  | .iand => decide (r.2.2.1 = 1)
  | .ior => decide (r.2.2.1 = 1)
  | .ixor => decide (r.2.2.1 = 1)
  | .ishl => decide (r.2.2.1 = 1)
  | .ishr => decide (r.2.2.1 = 1)
  | .i2b => decide (r.2.2.1 = 1)
  | .i2l => decide (r.2.2.1 = 1)
  | .ladd => decide (r.2.2.1 = 1)
  | .lmul => decide (r.2.2.1 = 1)
  | .ldiv => decide (r.2.2.1 = 1)
  | .lor => decide (r.2.2.1 = 1)
  | .lshl => decide (r.2.2.1 = 1)
  | .lcmp => decide (r.2.2.1 = 1)
  | .dup => decide (r.2.2.1 = 1)
  | .pop => decide (r.2.2.1 = 1)
  | .dup2 => decide (r.2.2.1 = 1)
  | .ifCond cn off => decide (r.2.2.1 = 3) && ab_tg r.1 off r.2.2.2.2.2.2.1
  | .if_icmp cn off => decide (r.2.2.1 = 3) && ab_tg r.1 off r.2.2.2.2.2.2.1
  | .goto off => decide (r.2.2.1 = 3) && ab_tg r.1 off r.2.2.2.2.2.2.1
  | .tableswitch dflt lo hi offs => ab_tsw r.1 dflt lo hi offs.toList r.2.2.2.2.2.2.1
  | .getfield i => decide (r.2.2.1 = 3) && ab_fl (ab_nm M).cls i r.2.2.2.1 r.2.2.2.2.1 p
  | .putfield i => decide (r.2.2.1 = 3) && ab_fl (ab_nm M).cls i r.2.2.2.1 r.2.2.2.2.1 p
  | .newarray ty => decide (r.2.2.1 = 2) && (decide (newarray.typeOf ty = ab_kt (ab_atk ty) ∧ (ab_atk ty = 3 ∨ ab_atk ty = 5 ∨ ab_atk ty = 6)) && (ab_lk (.arrayClass (newarray.typeOf ty)) p && ab_nfin rs))
  | .iaload => decide (r.2.2.1 = 1)
  | .baload => decide (r.2.2.1 = 1)
  | .laload => decide (r.2.2.1 = 1)
  | .iastore => decide (r.2.2.1 = 1)
  | .lastore => decide (r.2.2.1 = 1)
  | .bastore => decide (r.2.2.1 = 1)
  | .arraylength => decide (r.2.2.1 = 1)
  | .ireturn => decide (r.2.2.1 = 1)
  | .lreturn => decide (r.2.2.1 = 1)
  | .areturn => decide (r.2.2.1 = 1)
  | .return_ => decide (r.2.2.1 = 1)
  | .invokevirtual i => decide (r.2.2.1 = 3) && ab_ml1 (ab_nm M).cls i r.2.2.2.2.2.2.2 p
  | .invokestatic i => decide (r.2.2.1 = 3) && ab_ml2 (ab_nm M).cls i r.2.2.2.2.2.1 r.2.2.2.2.2.2.2 p
  | _ => false
def ab_rowB (M : ab_M) (r : ab_R) (p : Nat) (rs : List ab_R) : Bool := decide (decode (ab_cd M) r.1 = .ok (r.2.1, r.2.2.1)) && ab_rowC M r p rs
def ab_okR (M : ab_M) : List ab_R → List Nat → Bool
  | [], _ => true
  | r :: rs, p :: ps => ab_rowB M r p rs && ((match rs with
    | [] => true
    | r2 :: _ => Nat.beq r2.1 (r.1 + r.2.2.1)) && ab_okR M rs ps)
  | _ :: _, [] => false
def ab_okS (M : ab_M) (rs : List ab_R) : Prop := ∃ ps, ab_okR M rs ps = true
theorem ab_okS_tl {M : ab_M} {r : ab_R} {rs : List ab_R} (h : ab_okS M (r :: rs)) : (∃ p, ab_rowB M r p rs = true) ∧ (∀ r2 rs2, rs = r2 :: rs2 → r2.1 = r.1 + r.2.2.1) ∧ ab_okS M rs := by
  obtain ⟨ps, h⟩ := h
  cases ps with
  | nil => cases h
  | cons p ps =>
    simp only [ab_okR, Bool.and_eq_true] at h
    refine ⟨⟨p, h.1⟩, fun r2 rs2 e => ?_, ps, h.2.2⟩
    subst e
    exact ab_beq h.2.1
theorem ab_okS_seek {M : ab_M} {rows : List ab_R} (h : ab_okS M rows) (t : Nat) : ab_okS M (ab_seek rows t) ∧ ∀ r2 rs2, ab_seek rows t = r2 :: rs2 → r2.1 = t := by
  induction rows with
  | nil => exact ⟨h, fun r2 rs2 e => by cases e⟩
  | cons r rs ih =>
    simp only [ab_seek]
    split
    · rename_i hb
      exact ⟨h, fun r2 rs2 e => by cases e; exact ab_beq hb⟩
    · exact ih (ab_okS_tl h).2.2
theorem ab_take_ok {n : Nat} {acc l a r : List ab_V} (h : ab_take n acc l = some (a, r)) : acc.reverse ++ l = a.reverse ++ r ∧ a.length = acc.length + n := by
  induction n generalizing acc l with
  | zero =>
    simp only [ab_take, Option.some.injEq, Prod.mk.injEq] at h
    obtain ⟨rfl, rfl⟩ := h
    exact ⟨rfl, by simp⟩
  | succ n ih =>
    cases l with
    | nil => cases h
    | cons v l =>
      obtain ⟨h1, h2⟩ := ih (acc := v :: acc) (l := l) h
      refine ⟨by rw [← h1]; simp, by rw [h2]; simp; omega⟩
theorem ab_good_all {M : ab_M} (hm : ab_mok M) {ws0 : List Jvm.Cond} (h : ∀ w ∈ ws0, w ∈ ab_gw) : GoodIn ab_gw (ws0 ++ ab_ws M) := fun w hw => by
  have : w ∈ ab_gw := by
    rcases List.mem_append.mp hw with h1 | h1
    · exact h w h1
    · exact ab_ws_in hm w h1
  exact ⟨this, ab_gw_good this⟩
section
variable {x : ab_Cx} {pc : Nat} {lv : List (Option ab_V)} {ws : List ab_Ob} {kc ks : Nat}
theorem ab_hW {ad : Nat → Nat → Nat} {ak : Nat → Nat} {m : MethodId} {ls : Array Slot} {st : List Value} {rest : List ab_V} (h : ab_cats rest ≤ 8) : 2 * (F0 m pc ls st).monitorRoom + ((rest.map (ab_cv ad ak)).map fun v => v.category).sum ≤ 8 := lv_room (by rw [ab_cats_map]; exact h)
/-! the shorter call is a call -/
theorem ab_l16_len : ∀ {n : Nat} {l : List ab_Ob}, ab_l16 n l = true → l.length = n
  | 0, [], _ => rfl
  | n + 1, _ :: l, h => by
    simp only [ab_l16] at h
    rw [List.length_cons, ab_l16_len h]
  | 0, _ :: _, h => by simp [ab_l16] at h
  | _ + 1, [], h => by simp [ab_l16] at h
theorem ab_pls_16 {as : List ab_V} (ha : ab_at as 0 = some (ab_O 0)) : ∀ {qs : List (Nat × Nat)} {n : Nat}, ab_ptB n qs = true → n + qs.length = 16 ∧ ab_pls as qs = some (List.range' n qs.length)
  | [], n, h => by
    simp only [ab_ptB] at h
    exact ⟨Nat.eq_of_beq_eq_true h, rfl⟩
  | q :: qs, n, h => by
    simp only [ab_ptB, Bool.and_eq_true] at h
    obtain ⟨h1, h2, h3⟩ := h
    obtain ⟨i1, i2⟩ := ab_pls_16 ha h3
    have e1 := Nat.eq_of_beq_eq_true h1
    have e2 := Nat.eq_of_beq_eq_true h2
    refine ⟨by rw [List.length_cons]; omega, ?_⟩
    show (match ab_at as q.1, ab_pls as qs with
      | some (.inr (.inr (.inl o))), some l => some ((o + q.2) :: l)
      | _, _ => none) = _
    rw [e1, ha, i2, e2, List.length_cons, List.range'_succ]
    show some ((0 + n) :: _) = _
    rw [Nat.zero_add]
theorem ab_p16_eq : ab_p16 = List.range' 0 16 := rfl
theorem ab_ix_16 : ∀ o : Fin 16, ab_ix o.val ab_p16 = some o.val := by decide
theorem ab_rens_16 : ∀ {as : List ab_V}, ab_fsB as = true → ab_rens ab_p16 as = some as
  | [], _ => rfl
  | .inl z :: l, h => by
    have := ab_rens_16 (as := l) h
    simp [ab_rens, ab_ren, this]
  | .inr (.inl z) :: l, h => by
    have := ab_rens_16 (as := l) h
    simp [ab_rens, ab_ren, this]
  | .inr (.inr (.inl o)) :: l, h => by
    simp only [ab_fsB, Bool.and_eq_true] at h
    have := ab_rens_16 (as := l) h.2
    have hx := ab_ix_16 ⟨o, Nat.le_of_ble_eq_true h.1⟩
    simp only at hx
    simp [ab_rens, ab_ren, this, hx]
  | .inr (.inr (.inr z)) :: l, h => by simp [ab_fsB] at h
theorem ab_sub_rg {α : Type} {l : List α} : ∀ (k n : Nat), n + k = l.length → ab_sub l (List.range' n k) = some (l.drop n)
  | 0, n, h => by
    rw [List.drop_of_length_le (by omega)]
    rfl
  | k + 1, n, h => by
    have i := ab_sub_rg (l := l) k (n + 1) (by omega)
    have hn : n < l.length := by omega
    rw [List.range'_succ]
    show (match ab_at l n, ab_sub l (List.range' (n + 1) k) with
      | some x, some r => some (x :: r)
      | _, _ => none) = _
    rw [i, ab_at_eq, List.getElem?_eq_getElem hn, List.drop_eq_getElem_cons hn]
theorem ab_put_rg {α : Type} : ∀ (k n : Nat) (l xs : List α), n + k = l.length → xs.length = k → ab_put l (List.range' n k) xs = l.take n ++ xs
  | 0, n, l, xs, h, hx => by
    have e : xs = [] := List.length_eq_zero_iff.mp hx
    subst e
    rw [List.take_of_length_le (by omega), List.append_nil]
    rfl
  | k + 1, n, l, [], h, hx => by simp at hx
  | k + 1, n, l, x :: xs, h, hx => by
    have i := ab_put_rg k (n + 1) (ab_set l n x) xs (by rw [ab_set_eq, List.length_set]; omega) (by simpa using hx)
    rw [List.range'_succ]
    show ab_put (ab_set l n x) (List.range' (n + 1) k) xs = _
    rw [i, ab_set_eq]
    have hn : n < l.length := by omega
    have e : (l.set n x).take (n + 1) = l.take n ++ [x] := by
      rw [List.take_succ, List.take_set_of_le (Nat.le_refl _), List.getElem?_set_self hn]
      rfl
    rw [e, List.append_assoc]
    rfl
theorem ab_alW_mono : ∀ {bs : List Bool} {os : List ab_Ob} {k k' : List ab_Ob → Prop}, ab_alW bs os k → (∀ l, l.length = os.length → k l → k' l) → ab_alW bs os k'
  | [], [], k, k', h, hk => hk [] rfl h
  | true :: bs, o :: os, k, k', h, hk => fun x => ab_alW_mono (h x) (fun l hl hh => hk (x :: l) (by simp [hl]) hh)
  | false :: bs, o :: os, k, k', h, hk => ab_alW_mono (bs := bs) (os := os) h (fun l hl hh => hk (o :: l) (by simp [hl]) hh)
  | [], _ :: _, _, _, h, _ => h.elim
  | true :: _, [], _, _, h, _ => h.elim
  | false :: _, [], _, _, h, _ => h.elim
theorem ab_alR_mono {rt : Option FieldType} {p : Nat} {k k' : Option ab_V → Prop} (h : ab_alR rt p k) (hk : ∀ r, k r → k' r) : ab_alR rt p k' := by
  cases rt with
  | none => exact hk _ h
  | some t => cases t <;> first | exact hk _ h | exact fun r => hk _ (h r)
theorem ab_exA_mono {kc ks mc ms : Nat} {b : Bool} {k k' : Nat → Nat → Prop} (h : ab_exA kc ks mc ms b k) (hk : ∀ a c, k a c → k' a c) : ab_exA kc ks mc ms b k' := by
  cases b with
  | false => exact hk _ _ h
  | true =>
    obtain ⟨a, c, h1, h2⟩ := h
    exact ⟨a, c, h1, hk _ _ h2⟩
theorem ab_inv_0 {G : List Nat} {d mc ms : Nat} {mv : Bool} {K : ab_KT} {M : ab_M} {rs : List ab_R} {lv : List (Option ab_V)} {as rest : List ab_V} {ws : List ab_Ob} {kc ks : Nat} (h : ab_inv G d mc ms mv K M rs lv as rest ws kc ks) : ab_inv0 G d mc ms mv K M rs lv as rest ws kc ks := by
  unfold ab_inv at h
  split at h
  · rename_i hf
    unfold ab_fst at hf
    simp only [Bool.and_eq_true] at hf
    obtain ⟨_, f2, f3, f4, f5, f6⟩ := hf
    have eG := ab_eqs_eq f3
    have eM := ab_eqs_eq f4
    have hl := ab_l16_len f6
    obtain ⟨l, eas, hB⟩ : ∃ l, as = ab_O 0 :: l ∧ ab_fsB l = true := by
      unfold ab_fsA at f2
      split at f2
      · rename_i o l
        simp only [Bool.and_eq_true] at f2
        have := Nat.eq_of_beq_eq_true f2.1
        subst this
        exact ⟨l, rfl, f2.2⟩
      · cases f2
    have hp := ab_pls_16 (as := as) (by rw [eas]; rfl) f5
    have hpl : (ab_pt M).length = 16 := by have := hp.1; omega
    have e1 : ab_pls as (ab_pt M) = some ab_p16 := by rw [hp.2, hpl]; rfl
    have e2 : ab_rens ab_p16 as = some as := ab_rens_16 (by rw [eas]; show (Nat.ble (0 + 1) 16 && ab_fsB l) = true; rw [hB]; rfl)
    have e3 : ab_sub ws ab_p16 = some ws := by rw [ab_p16_eq, ab_sub_rg 16 0 (by omega)]; rfl
    have e4 : ab_sub G ab_p16 = some ab_g8 := by rw [eG]; rfl
    have c1 : ab_nd ab_p16 = true := by decide
    have c2 : ab_eqs ab_g8 (ab_G M) = true := by rw [eM]; decide
    have c3 : ab_ck2 ab_p16 0 ab_p16 ab_g8 = true := by decide
    unfold ab_inv1 at h
    split at h
    · rename_i hc
      unfold ab_inv0
      rw [e1]
      simp only [e2, e3, e4, c1, c2, c3, Bool.true_and, hc]
      refine ab_exA_mono h fun a c hq => ?_
      obtain ⟨Q, q1, q2⟩ := hq
      refine ⟨Q, q1, ab_alR_mono q2 fun r q3 => ab_alW_mono q3 fun w hw q4 q5 => ?_⟩
      have q6 := q4 q5
      have ep : ab_put ws ab_p16 w = w := by
        rw [ab_p16_eq, ab_put_rg 16 0 ws w (by omega) (by omega)]
        rfl
      split at q6
      · rename_i st hst
        rw [ab_frc_eq, ep]
        exact q6
      · exact q6.elim
    · exact h.elim
  · exact h
/-- a call of a method of an object -/
theorem ab_r_inv {K : ab_KT} {rs : List ab_R} (X : ab_X x) {M : ab_M} {i : Nat} {as rest : List ab_V} (hw : .methodLink (ab_nm (ab_cM x)).cls i (ab_nm M) ∈ ab_gw) (hna : as.length = if ab_st M = true then ab_na M else ab_na M + 1)
    (hd : if ab_st M = true then ab_dec x pc (.invokestatic i) 3 else ab_dec x pc (.invokevirtual i) 3)
    (hrec : ab_st M = true ∨ (∃ o ci as0, as = ab_O o :: as0 ∧ ab_at (ab_G (ab_cM x)) o = some ci ∧ ci = ab_ci M ∧ ci < 10) ∨ ∃ n as0, as = ab_S n :: as0 ∧ ab_ci M = 100 ∧ n < 12)
    (hK : ∀ lv st ws kc ks, K rs lv st ws kc ks → ab_J x (pc + 3) lv st ws kc ks)
    (k : ab_inv (ab_G (ab_cM x)) (ab_cd' x) (ab_cc x) (ab_ck x) (ab_mv (ab_cM x)) K M rs lv as rest ws kc ks) : ab_J x pc lv (as.reverse ++ rest) ws kc ks := by
  have k := ab_inv_0 k
  unfold ab_inv0 at k
  simp only [ab_frc_eq] at k
  split at k
  · exact k.elim
  · rename_i pl hpl
    split at k
    · rename_i as' ws' G' h1 h2 h3
      split at k
      · rename_i hc
        simp only [Bool.and_eq_true] at hc
        obtain ⟨c1, c2, c3, c4, c5⟩ := hc
        have c4 := Nat.le_of_ble_eq_true c4
        obtain ⟨mc, ms, hroom0, k⟩ := ab_exA_ok k
        obtain ⟨Q, hC, k⟩ := k
        · have hm := hC.1
          refine ab_r_call X hC h1 h2 h3 c1 c2 c3 (fun hmv => ?_) hroom0 ?_ (fun rv ws'' hq => ?_)
          · rw [hmv] at c5
            simp only [Bool.not_true, Bool.false_or, Bool.and_eq_true] at c5
            exact ⟨c5.1, c5.2.1, c5.2.2⟩
          · intro ad H locs ls adC hadC hW hI hS hl hok hroom hMet hPre
            have hR : (ab_rm (ab_cd' x) mc ms).frames + 1 ≤ (ab_cR x).frames ∧ 8 + (ab_ml M + 11) + (ab_rm (ab_cd' x) mc ms).locals ≤ (ab_cR x).locals := by
              rw [X.R]
              refine ⟨Nat.le_refl _, ?_⟩
              show 8 + (ab_ml M + 11) + 37 * ab_cd' x ≤ 37 * (ab_cd' x + 1)
              have := hm.2.2.2.1
              omega
            have hf : kc + mc ≤ (ab_cR x).cells ∧ ks + ms ≤ (ab_cR x).slots := by rw [X.R]; exact hroom
            have hfix : CallFix x.1.1 (ab_cm x) x.2.1.2.2.1 (ab_cd (ab_cM x)) (ab_ml (ab_cM x)) (ab_cs x) (ab_ca x) ab_gw (ab_nm (ab_cM x)).cls := ⟨X.ex, X.cd, X.ml, X.own, X.ts⟩
            by_cases hs : ab_st M = true
            · have hm5 := hm.2.2.2.2
              rw [if_pos hs] at hm5 hd hna
              have cb := callB_of (own := (ab_nm (ab_cM x)).cls) (index := i) (ab_na M) X.ts (fun w h => ⟨ab_ws_in hm w h, ab_gw_good (ab_ws_in hm w h)⟩) rfl rfl rfl (X.ts _ hm.2.1) (X.ts _ hw) hm.2.2.1 hR
              refine va_runS hfix hMet ⟨cb, X.ts _ hm5⟩ hPre rfl (by rw [List.length_map]; exact hna) hl.1 ?_ (ab_hW c4) hd hf
              show (as.reverse ++ rest).map _ = _
              rw [List.map_append, List.map_reverse]
            · have hm5 := hm.2.2.2.2
              rw [if_neg hs] at hm5 hd hna
              have cw := cwV (own := (ab_nm (ab_cM x)).cls) (index := i) (C := (ab_nm M).cls) (ab_na M) X.ts (ab_good_all hm (ws0 := [.methodLink (ab_nm (ab_cM x)).cls i (ab_nm M), .instanceMethod (ab_nm M), .selects (ab_nm M).cls (ab_nm M) (ab_nm M), .initialized (ab_nm M).cls]) (fun w h => by
                simp only [List.mem_cons, List.not_mem_nil, or_false] at h
                rcases h with rfl | rfl | rfl | rfl
                · exact hw
                · exact hm5.1
                · exact hm5.2.1
                · exact hm.2.1)) rfl rfl rfl ⟨rfl, hm.2.2.1⟩ hR
              rcases hrec with h | ⟨o, ci, as0, rfl, hGo, hci, hlt⟩ | ⟨n, as0, rfl, hci, hlt⟩
              · exact absurd h hs
              · have hrcv : ∃ cell : Cell, H[ad o 0]? = some cell ∧ cell.vm.isStatics = false ∧ (ab_cs x).vm.findClass (ab_nm M).cls = some cell.cls := by
                  have hol := ab_at_lt hGo
                  rw [← hW.1] at hol
                  obtain ⟨ob, hob⟩ : ∃ ob, ab_at ws o = some ob := ⟨ws[o], by rw [ab_at_eq]; simp [hol]⟩
                  obtain ⟨⟨cell, q1, q2, q3, q4⟩, _⟩ := hW.2 o ci ob hGo hob
                  rcases hm5.2.2 with ⟨T, N, hcl⟩ | ⟨h100, _⟩
                  · rw [← hci] at hcl
                    exact ⟨cell, q1, by rw [q3]; rfl, by rw [q2]; exact (X.K.1.1 ci _ hcl).2.1⟩
                  · omega
                refine va_runV (As := as0.map (ab_cv ad (ab_cE x).2.2.1)) (b := ad o 0) hfix hMet cw ⟨hPre.1, hrcv, hPre.2⟩ rfl (by rw [List.length_map]; simpa using hna) hl.1 ?_ (ab_hW c4) hd hf
                show ((ab_O o :: as0).reverse ++ rest).map _ = _
                simp [List.map_append, List.map_reverse, ab_cv]
              · have hrcv := vk_recv X.K.2.1 hlt hS
                have hcls : (ab_nm M).cls = "java/lang/String" := by
                  rcases hm5.2.2 with ⟨T, N, hcl⟩ | ⟨_, h⟩
                  · rw [hci] at hcl; simp [vwCl] at hcl
                  · exact h
                refine va_runV (As := as0.map (ab_cv ad (ab_cE x).2.2.1)) (b := (ab_cE x).2.2.1 n) hfix hMet cw ⟨hPre.1, by rw [hcls]; exact hrcv, hPre.2⟩ rfl (by rw [List.length_map]; simpa using hna) hl.1 ?_ (ab_hW c4) hd hf
                show ((ab_S n :: as0).reverse ++ rest).map _ = _
                simp [List.map_append, List.map_reverse, ab_cv]
          · have kk := ab_alW_ok (ab_alR_ok k hq.1.1) hq.1.2 hq.2
            split at kk
            · rename_i st' hst'
              exact ⟨st', hst', hK _ _ _ _ _ kk⟩
            · exact kk.elim
      · exact k.elim
    · exact k.elim
end
