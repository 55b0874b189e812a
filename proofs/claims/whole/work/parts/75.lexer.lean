/-! TOKENS: mathematics -/
def lx_sp (x : Int) : Bool := decide (x = 32)
def lx_le (x : Int) : Bool := decide (97 ≤ x) && decide (x ≤ 122)
def lx_di (x : Int) : Bool := decide (48 ≤ x) && decide (x ≤ 57)
theorem lx_le_iff {x : Int} : lx_le x = true ↔ 97 ≤ x ∧ x ≤ 122 := by unfold lx_le; simp
theorem lx_di_iff {x : Int} : lx_di x = true ↔ 48 ≤ x ∧ x ≤ 57 := by unfold lx_di; simp
theorem lx_sp_iff {x : Int} : lx_sp x = true ↔ x = 32 := by unfold lx_sp; simp
def lx_go (T : Int → Int) (P : Int → Bool) : Nat → Int → Int
  | 0, p => p
  | k + 1, p => if P (T p) = true then lx_go T P k (p + 1) else p
/-- the first place from p on, below n, whose sign isn't so; n -/
def lx_sk (T : Int → Int) (P : Int → Bool) (n p : Int) : Int := lx_go T P (n - p).toNat p
theorem lx_sk_e {T : Int → Int} {P : Int → Bool} {n p : Int} (h : n ≤ p) : lx_sk T P n p = p := by
  unfold lx_sk
  rw [show (n - p).toNat = 0 by omega]
  rfl
theorem lx_sk_y {T : Int → Int} {P : Int → Bool} {n p : Int} (h : p < n) (hp : P (T p) = true) : lx_sk T P n p = lx_sk T P n (p + 1) := by
  unfold lx_sk
  rw [show (n - p).toNat = (n - (p + 1)).toNat + 1 by omega]
  simp only [lx_go]
  rw [if_pos hp]
theorem lx_sk_n {T : Int → Int} {P : Int → Bool} {n p : Int} (hp : ¬ P (T p) = true) : lx_sk T P n p = p := by
  unfold lx_sk
  cases (n - p).toNat with
  | zero => rfl
  | succ k =>
    simp only [lx_go]
    rw [if_neg hp]
theorem lx_sk_in {T : Int → Int} {P : Int → Bool} {n : Int} : ∀ (q : Nat) {p : Int}, p + q = n → p ≤ lx_sk T P n p ∧ lx_sk T P n p ≤ n ∧ ∀ z : Int, p ≤ z → z < lx_sk T P n p → P (T z) = true
  | 0, p, h => by
    rw [lx_sk_e (by omega)]
    exact ⟨by omega, by omega, fun z z1 z2 => absurd z2 (by omega)⟩
  | q + 1, p, h => by
    push_cast at h
    by_cases hp : P (T p) = true
    · have ih := lx_sk_in (T := T) (P := P) (n := n) q (p := p + 1) (by omega)
      rw [lx_sk_y (by omega) hp]
      refine ⟨by omega, by omega, fun z z1 z2 => ?_⟩
      by_cases e : z = p
      · subst e; exact hp
      · exact ih.2.2 z (by omega) z2
    · rw [lx_sk_n hp]
      exact ⟨by omega, by omega, fun z z1 z2 => absurd z2 (by omega)⟩
theorem lx_sk_b {T : Int → Int} {P : Int → Bool} {n p : Int} (h : p ≤ n) : p ≤ lx_sk T P n p ∧ lx_sk T P n p ≤ n ∧ ∀ z : Int, p ≤ z → z < lx_sk T P n p → P (T z) = true := lx_sk_in (n - p).toNat (by omega)
/-- a token that begins at a: the place behind it, its kind, its number -/
def lx_e (T : Int → Int) (n a : Int) : Int := if n ≤ a then a else if lx_le (T a) = true then lx_sk T lx_le n a else if lx_di (T a) = true then lx_sk T lx_di n a else a + 1
def lx_k (T : Int → Int) (n a : Int) : Int := if n ≤ a then 1 else if lx_le (T a) = true then (if lx_e T n a - a ≤ 6 then 2 else 0) else if lx_di (T a) = true then (if lx_e T n a - a ≤ 2 then 3 else 0) else if T a = 59 then 4 else 0
def lx_n (T : Int → Int) (n a : Int) : Int := if lx_e T n a - a = 1 then T a - 48 else (T a - 48) * 10 + (T (a + 1) - 48)
/-- where the next token begins -/
def lx_x (T : Int → Int) (n a : Int) : Int := lx_sk T lx_sp n (lx_e T n a)
theorem lx_e_b {T : Int → Int} {n a : Int} (h : a ≤ n) : a ≤ lx_e T n a ∧ lx_e T n a ≤ n ∧ (a < n → a < lx_e T n a) := by
  unfold lx_e
  by_cases h1 : n ≤ a
  · rw [if_pos h1]; omega
  · rw [if_neg h1]
    by_cases h2 : lx_le (T a) = true
    · rw [if_pos h2, lx_sk_y (by omega) h2]
      have := lx_sk_b (T := T) (P := lx_le) (n := n) (p := a + 1) (by omega)
      omega
    · rw [if_neg h2]
      by_cases h3 : lx_di (T a) = true
      · rw [if_pos h3, lx_sk_y (by omega) h3]
        have := lx_sk_b (T := T) (P := lx_di) (n := n) (p := a + 1) (by omega)
        omega
      · rw [if_neg h3]; omega
theorem lx_x_b {T : Int → Int} {n a : Int} (h : a ≤ n) : lx_e T n a ≤ lx_x T n a ∧ lx_x T n a ≤ n := by
  have h1 := lx_e_b (T := T) h
  have := lx_sk_b (T := T) (P := lx_sp) (n := n) (p := lx_e T n a) h1.2.1
  unfold lx_x
  omega
/-! the class's reader: tokens -/
/-- the reader's token is the one that begins at a -/
def rd_at (w : ab_Ob) (T : Int → Int) (n a : Int) : Prop := w.1 7 = a ∧ w.1 8 = lx_e T n a ∧ w.1 6 = lx_k T n a ∧ (lx_k T n a = 3 → w.1 9 = lx_n T n a)
def rd_f (w v : ab_Ob) : Prop := (∀ f, f ≠ 6 → f ≠ 7 → f ≠ 8 → f ≠ 9 → v.1 f = w.1 f) ∧ v.2 = w.2
theorem rd_f_t {u v w : ab_Ob} (h1 : rd_f u v) (h2 : rd_f v w) : rd_f u w := ⟨fun f a b c d => by rw [h2.1 f a b c d]; exact h1.1 f a b c d, by rw [h2.2]; exact h1.2⟩
def rd_l (w : ab_Ob) : Prop := (w.2 1).1 = 700 ∧ (w.2 5).1 = 6 ∧ 0 ≤ w.1 2 ∧ w.1 2 ≤ 700
theorem rd_f_l {v w : ab_Ob} (h1 : rd_f w v) (h2 : rd_l w) : rd_l v := by
  unfold rd_l at h2 ⊢
  rw [h1.2, h1.1 2 (by decide) (by decide) (by decide) (by decide)]
  exact h2
theorem c_isLetter (d : Nat) (w b : ab_Ob) (hl : (w.2 1).1 = 700) {i : Int} (h0 : 0 ≤ i) (h1 : i < 700) : ab_Ct (d + 1) 0 0 mX4_isLetter [ab_O 0, ab_I i] [w, b] (ab_Bo (lx_le ((w.2 1).2 i) = true) [w, b]) :=
  ab_ct kX4_isLetter rfl rfl (fun x hx => vX4_isLetter_0 hx i w b 0 0 ⟨by omega, fun g => ⟨ab_i01, ab_l0b rfl (by rw [lx_le_iff]; omega)⟩, fun g => ⟨by omega, fun g2 => ⟨ab_i01, ab_l0b rfl (by rw [lx_le_iff]; omega)⟩, fun g2 => ⟨ab_i11, ab_l1b rfl (by rw [lx_le_iff]; omega)⟩⟩⟩)
theorem c_isDigit (d : Nat) (w b : ab_Ob) (hl : (w.2 1).1 = 700) {i : Int} (h0 : 0 ≤ i) (h1 : i < 700) : ab_Ct (d + 1) 0 0 mX4_isDigit [ab_O 0, ab_I i] [w, b] (ab_Bo (lx_di ((w.2 1).2 i) = true) [w, b]) :=
  ab_ct kX4_isDigit rfl rfl (fun x hx => vX4_isDigit_0 hx i w b 0 0 ⟨by omega, fun g => ⟨ab_i01, ab_l0b rfl (by rw [lx_di_iff]; omega)⟩, fun g => ⟨by omega, fun g2 => ⟨ab_i01, ab_l0b rfl (by rw [lx_di_iff]; omega)⟩, fun g2 => ⟨ab_i11, ab_l1b rfl (by rw [lx_di_iff]; omega)⟩⟩⟩)
theorem c_takeWord (d : Nat) (w b : ab_Ob) (hl : rd_l w) (h7 : 0 ≤ w.1 7 ∧ w.1 7 ≤ w.1 8 ∧ w.1 8 ≤ w.1 2) : ab_Ct (d + 2) 0 0 mX4_takeWord [ab_O 0] [w, b] (ab_V2 b (fun v => rd_f w v ∧ v.1 7 = w.1 7 ∧ v.1 8 = lx_sk (w.2 1).2 lx_le (w.1 2) (w.1 8) ∧ v.1 6 = if lx_sk (w.2 1).2 lx_le (w.1 2) (w.1 8) - w.1 7 ≤ 6 then 2 else 0)) := by
  obtain ⟨l1, l5, n0, n7⟩ := hl
  refine ab_ct kX4_takeWord rfl rfl (fun x hx => ?_)
  have key : ∀ (q : Nat) (u : ab_Ob), u.1 8 + q = w.1 2 → w.1 8 ≤ u.1 8 → (∀ f, f ≠ 8 → u.1 f = w.1 f) → u.2 = w.2 → lx_sk (w.2 1).2 lx_le (w.1 2) (u.1 8) = lx_sk (w.2 1).2 lx_le (w.1 2) (w.1 8) → ab_J x 0 [some (ab_O 0)] [] [u, b] 0 0 := by
    intro q
    induction q with
    | zero =>
      intro u hq h8 u1 u2 hE
      have e2 := u1 2 (by decide)
      have e7 := u1 7 (by decide)
      have eE : lx_sk (w.2 1).2 lx_le (w.1 2) (w.1 8) = u.1 8 := by rw [← hE]; exact lx_sk_e (by omega)
      refine vX4_takeWord_0 hx u b 0 0 ⟨fun _ => ⟨by omega, fun g => ab_lv2 ?_, fun g => ab_lv2 ?_⟩, fun g => absurd (by omega) g⟩
      · refine ⟨⟨fun f f6 f7 f8 f9 => by rw [hd_pf_ne f6]; exact u1 f f8, u2⟩, by show u.1 7 = _; exact e7, by show u.1 8 = _; exact eE.symm, ?_⟩
        rw [hd_pf_eq, eE, if_neg (by omega)]
      · refine ⟨⟨fun f f6 f7 f8 f9 => by rw [hd_pf_ne f6]; exact u1 f f8, u2⟩, by show u.1 7 = _; exact e7, by show u.1 8 = _; exact eE.symm, ?_⟩
        rw [hd_pf_eq, eE, if_pos (by omega)]
    | succ q ih =>
      intro u hq h8 u1 u2 hE
      push_cast at hq
      have e2 := u1 2 (by decide)
      have e7 := u1 7 (by decide)
      refine vX4_takeWord_0 hx u b 0 0 ⟨fun g => absurd g (by omega), fun _ => ab_xb (c_isLetter d u b (by rw [u2]; exact l1) (by omega) (by omega)) (fun p => ⟨fun g => absurd g (by decide), fun _ => ⟨by omega, ?_⟩⟩) (fun p => ⟨fun _ => ?_, fun g => absurd rfl g⟩)⟩
      · rw [u2] at p
        refine ih _ (by show u.1 8 + 1 + (q : Int) = _; omega) (by show _ ≤ u.1 8 + 1; omega) (fun f hf => by rw [hd_pf_ne hf]; exact u1 f hf) u2 ?_
        rw [hd_pf_eq, ← lx_sk_y (by omega) p]
        exact hE
      · rw [u2] at p
        have eE : lx_sk (w.2 1).2 lx_le (w.1 2) (w.1 8) = u.1 8 := by rw [← hE]; exact lx_sk_n p
        refine ⟨by omega, fun g => ab_lv2 ?_, fun g => ab_lv2 ?_⟩
        · refine ⟨⟨fun f f6 f7 f8 f9 => by rw [hd_pf_ne f6]; exact u1 f f8, u2⟩, by show u.1 7 = _; exact e7, by show u.1 8 = _; exact eE.symm, ?_⟩
          rw [hd_pf_eq, eE, if_neg (by omega)]
        · refine ⟨⟨fun f f6 f7 f8 f9 => by rw [hd_pf_ne f6]; exact u1 f f8, u2⟩, by show u.1 7 = _; exact e7, by show u.1 8 = _; exact eE.symm, ?_⟩
          rw [hd_pf_eq, eE, if_pos (by omega)]
  exact key (w.1 2 - w.1 8).toNat w (by omega) (by omega) (fun _ _ => rfl) rfl rfl
/-! numbers that may wrap around -/
theorem ab_r_imulw {x : ab_Cx} {pc : Nat} {lv : List (Option ab_V)} {st : List ab_V} {ws : List ab_Ob} {kc ks : Nat} (X : ab_X x) {a b : Int} (hd : ab_dec x pc .imul 1) (k : ab_J x (pc + 1) lv (.inl (Int32.ofInt (a * b)).toInt :: st) ws kc ks) : ab_J x pc lv (.inl b :: .inl a :: st) ws kc ks :=
  ab_s_st (ab_ok2 (v := .inl (Int32.ofInt (a * b)).toInt) fun _ _ => ab_okT _) (fun _ _ _ _ _ _ kk => lv_imul X.ex X.cd hd (by
    rw [← Int32.ofInt_mul]
    have e : Int32.ofInt (Int32.ofInt (a * b)).toInt = Int32.ofInt (a * b) := Int32.ofInt_toInt _
    rw [← e]
    exact kk)) k
theorem ab_r_iaddw {x : ab_Cx} {pc : Nat} {lv : List (Option ab_V)} {st : List ab_V} {ws : List ab_Ob} {kc ks : Nat} (X : ab_X x) {a b : Int} (hd : ab_dec x pc .iadd 1) (k : ab_J x (pc + 1) lv (.inl (Int32.ofInt (a + b)).toInt :: st) ws kc ks) : ab_J x pc lv (.inl b :: .inl a :: st) ws kc ks :=
  ab_s_st (ab_ok2 (v := .inl (Int32.ofInt (a + b)).toInt) fun _ _ => ab_okT _) (fun _ _ _ _ _ _ kk => lv_iadd X.ex X.cd hd (by
    rw [← Int32.ofInt_add]
    have e : Int32.ofInt (Int32.ofInt (a + b)).toInt = Int32.ofInt (a + b) := Int32.ofInt_toInt _
    rw [← e]
    exact kk)) k
set_option maxRecDepth 100000 in
theorem vX4_takeWhole_5w {x : ab_Cx} {d mc ms : Nat} {Post : Option ab_V → List ab_Ob → Prop} (hx : ab_At x mX4_takeWhole d mc ms Post) (w0 w1 : ab_Ob) (kc ks : Nat)
    (h : (((w0.1 2) ≤ (w0.1 8) → ((-2147483648 ≤ (w0.1 8) - (w0.1 7) ∧ (w0.1 8) - (w0.1 7) ≤ 2147483647) ∧ ((2 < ((w0.1 8) - (w0.1 7)) → Post none [(ab_pf w0 6 0), w1]) ∧ (¬ 2 < ((w0.1 8) - (w0.1 7)) → Post none [(ab_pf w0 6 3), w1])))) ∧ (¬ (w0.1 2) ≤ (w0.1 8) → (∃ Q1 : Option ab_V → List ab_Ob → Prop, ab_Ct d 0 0 mX4_isDigit [ab_O 0, ab_I (w0.1 8)] [w0, w1] Q1 ∧ (∀ r2 : Int, Q1 (some (ab_I r2)) [w0, w1] → ((r2 = 0 → ((-2147483648 ≤ (w0.1 8) - (w0.1 7) ∧ (w0.1 8) - (w0.1 7) ≤ 2147483647) ∧ ((2 < ((w0.1 8) - (w0.1 7)) → Post none [(ab_pf w0 6 0), w1]) ∧ (¬ 2 < ((w0.1 8) - (w0.1 7)) → Post none [(ab_pf w0 6 3), w1])))) ∧ (¬ r2 = 0 → ab_J x 34 [some (ab_O 0)] [ab_I 10, ab_I (w0.1 9), ab_O 0] [w0, w1] kc ks))))))) :
    ab_J x 5 [some (ab_O 0)] [] [w0, w1] kc ks := ab_go hx kX4_takeWhole.2 36 [(5, [true]), (34, [true])] 5 h
set_option maxRecDepth 100000 in
theorem vX4_takeWhole_35w {x : ab_Cx} {d mc ms : Nat} {Post : Option ab_V → List ab_Ob → Prop} (hx : ab_At x mX4_takeWhole d mc ms Post) (z : Int) (w0 w1 : ab_Ob) (kc ks : Nat)
    (h : (0 ≤ w0.1 8 ∧ w0.1 8 < (w0.2 1).1) ∧ ((-2147483648 ≤ (w0.2 1).2 (w0.1 8) - 48 ∧ (w0.2 1).2 (w0.1 8) - 48 ≤ 2147483647) ∧ ab_J x 47 [some (ab_O 0)] [ab_I ((w0.2 1).2 (w0.1 8) - 48), ab_I z, ab_O 0] [w0, w1] kc ks)) :
    ab_J x 35 [some (ab_O 0)] [ab_I z, ab_O 0] [w0, w1] kc ks := ab_go hx kX4_takeWhole.2 36 [(47, [true])] 35 h
set_option maxRecDepth 100000 in
theorem vX4_takeWhole_48w {x : ab_Cx} {d mc ms : Nat} {Post : Option ab_V → List ab_Ob → Prop} (hx : ab_At x mX4_takeWhole d mc ms Post) (z : Int) (w0 w1 : ab_Ob) (kc ks : Nat)
    (h : (-2147483648 ≤ (w0.1 8) + 1 ∧ (w0.1 8) + 1 ≤ 2147483647) ∧ ab_J x 5 [some (ab_O 0)] [] [(ab_pf (ab_pf w0 9 z) 8 ((w0.1 8) + 1)), w1] kc ks) :
    ab_J x 48 [some (ab_O 0)] [ab_I z, ab_O 0] [w0, w1] kc ks := ab_go hx kX4_takeWhole.2 36 [(5, [true])] 48 h
theorem ab_t32' {z : Int} (h : -2147483648 ≤ z ∧ z ≤ 2147483647) : (Int32.ofInt z).toInt = z := ab_t32 h
theorem c_takeWhole (d : Nat) (w b : ab_Ob) (hl : rd_l w) (hT : ∀ q : Int, -128 ≤ (w.2 1).2 q ∧ (w.2 1).2 q ≤ 127) (h7 : 0 ≤ w.1 7 ∧ w.1 7 = w.1 8 ∧ w.1 8 ≤ w.1 2) : ab_Ct (d + 2) 0 0 mX4_takeWhole [ab_O 0] [w, b] (ab_V2 b (fun v => rd_f w v ∧ v.1 7 = w.1 7 ∧ v.1 8 = lx_sk (w.2 1).2 lx_di (w.1 2) (w.1 8) ∧ (v.1 6 = if lx_sk (w.2 1).2 lx_di (w.1 2) (w.1 8) - w.1 7 ≤ 2 then 3 else 0) ∧ (1 = v.1 8 - w.1 7 → v.1 9 = (w.2 1).2 (w.1 7) - 48) ∧ (2 = v.1 8 - w.1 7 → v.1 9 = ((w.2 1).2 (w.1 7) - 48) * 10 + ((w.2 1).2 (w.1 7 + 1) - 48)))) := by
  obtain ⟨l1, l5, n0, n7⟩ := hl
  refine ab_ct kX4_takeWhole rfl rfl (fun x hx => vX4_takeWhole_0 hx w b 0 0 ?_)
  have dm : ab_dec x 34 .imul 1 := by
    unfold ab_dec
    rw [hx.1.1]
    decide +kernel
  have da : ab_dec x 47 .iadd 1 := by
    unfold ab_dec
    rw [hx.1.1]
    decide +kernel
  have X := hx.2.1
  have key : ∀ (q : Nat) (u : ab_Ob), u.1 8 + q = w.1 2 → w.1 7 ≤ u.1 8 → (∀ f, f ≠ 8 → f ≠ 9 → u.1 f = w.1 f) → u.2 = w.2 → lx_sk (w.2 1).2 lx_di (w.1 2) (u.1 8) = lx_sk (w.2 1).2 lx_di (w.1 2) (w.1 8) → (0 = u.1 8 - w.1 7 → u.1 9 = 0) → (1 = u.1 8 - w.1 7 → u.1 9 = (w.2 1).2 (w.1 7) - 48) → (2 = u.1 8 - w.1 7 → u.1 9 = ((w.2 1).2 (w.1 7) - 48) * 10 + ((w.2 1).2 (w.1 7 + 1) - 48)) → ab_J x 5 [some (ab_O 0)] [] [u, b] 0 0 := by
    intro q
    have fin : ∀ (u : ab_Ob), w.1 7 ≤ u.1 8 → u.1 8 ≤ w.1 2 → (∀ f, f ≠ 8 → f ≠ 9 → u.1 f = w.1 f) → u.2 = w.2 → lx_sk (w.2 1).2 lx_di (w.1 2) (w.1 8) = u.1 8 → (1 = u.1 8 - w.1 7 → u.1 9 = (w.2 1).2 (w.1 7) - 48) → (2 = u.1 8 - w.1 7 → u.1 9 = ((w.2 1).2 (w.1 7) - 48) * 10 + ((w.2 1).2 (w.1 7 + 1) - 48)) → ∀ z : Int, z = (if u.1 8 - w.1 7 ≤ 2 then 3 else 0) → (((none : Option ab_V) = none ∧ ab_shw [true, false] [w, b] [ab_pf u 6 z, b]) ∧ ((none : Option ab_V) = none ∧ ∃ v, [ab_pf u 6 z, b] = [v, b] ∧ (rd_f w v ∧ v.1 7 = w.1 7 ∧ v.1 8 = lx_sk (w.2 1).2 lx_di (w.1 2) (w.1 8) ∧ (v.1 6 = if lx_sk (w.2 1).2 lx_di (w.1 2) (w.1 8) - w.1 7 ≤ 2 then 3 else 0) ∧ (1 = v.1 8 - w.1 7 → v.1 9 = (w.2 1).2 (w.1 7) - 48) ∧ (2 = v.1 8 - w.1 7 → v.1 9 = ((w.2 1).2 (w.1 7) - 48) * 10 + ((w.2 1).2 (w.1 7 + 1) - 48))))) := fun u a1 a2 u1 u2 eE g1 g2 z hz => by
      refine ab_lv2 ⟨⟨fun f f6 f7 f8 f9 => by rw [hd_pf_ne f6]; exact u1 f f8 f9, u2⟩, ?_, ?_, ?_, g1, g2⟩
      · show u.1 7 = _
        exact u1 7 (by decide) (by decide)
      · show u.1 8 = _
        exact eE.symm
      · rw [hd_pf_eq, eE]
        exact hz
    induction q with
    | zero =>
      intro u hq h8 u1 u2 hE g0 g1 g2
      have e2 := u1 2 (by decide) (by decide)
      have e7 := u1 7 (by decide) (by decide)
      have eE : lx_sk (w.2 1).2 lx_di (w.1 2) (w.1 8) = u.1 8 := by rw [← hE]; exact lx_sk_e (by omega)
      exact vX4_takeWhole_5w hx u b 0 0 ⟨fun _ => ⟨by omega, fun g => fin u h8 (by omega) u1 u2 eE g1 g2 _ (by rw [if_neg (by omega)]), fun g => fin u h8 (by omega) u1 u2 eE g1 g2 _ (by rw [if_pos (by omega)])⟩, fun g => absurd (by omega) g⟩
    | succ q ih =>
      intro u hq h8 u1 u2 hE g0 g1 g2
      push_cast at hq
      have e2 := u1 2 (by decide) (by decide)
      have e7 := u1 7 (by decide) (by decide)
      have tb := hT (u.1 8)
      refine vX4_takeWhole_5w hx u b 0 0 ⟨fun g => absurd g (by omega), fun _ => ab_xb (c_isDigit d u b (by rw [u2]; exact l1) (by omega) (by omega)) (fun p => ⟨fun g => absurd g (by decide), fun _ => ?_⟩) (fun p => ⟨fun _ => ?_, fun g => absurd rfl g⟩)⟩
      · rw [u2] at p
        refine ab_r_imulw X dm (vX4_takeWhole_35w hx _ u b 0 0 ⟨by rw [u2]; omega, by rw [u2]; omega, ab_r_iaddw X da (vX4_takeWhole_48w hx _ u b 0 0 ⟨by omega, ?_⟩)⟩)
        have pd := lx_di_iff.mp p
        refine ih _ (by show u.1 8 + 1 + (q : Int) = _; omega) (by show _ ≤ u.1 8 + 1; omega) (fun f f8 f9 => by rw [hd_pf_ne f8, hd_pf_ne f9]; exact u1 f f8 f9) u2 ?_ (fun y => ?_) (fun y => ?_) (fun y => ?_)
        · rw [hd_pf_eq, ← lx_sk_y (by omega) p]
          exact hE
        · rw [hd_pf_eq] at y
          omega
        · rw [hd_pf_eq] at y
          have y0 : u.1 8 = w.1 7 := by omega
          have z0 := g0 (by omega)
          show (Int32.ofInt ((Int32.ofInt (u.1 9 * 10)).toInt + ((u.2 1).2 (u.1 8) - 48))).toInt = _
          rw [z0, u2, y0, show (0 : Int) * 10 = 0 by omega, ab_t32' (z := 0) (by omega), Int.zero_add]
          rw [y0] at tb
          exact ab_t32' (by omega)
        · rw [hd_pf_eq] at y
          have y0 : u.1 8 = w.1 7 + 1 := by omega
          have z0 := g1 (by omega)
          have t0 := hT (w.1 7)
          show (Int32.ofInt ((Int32.ofInt (u.1 9 * 10)).toInt + ((u.2 1).2 (u.1 8) - 48))).toInt = _
          rw [z0, u2, y0, ab_t32' (z := ((w.2 1).2 (w.1 7) - 48) * 10) (by omega)]
          rw [y0] at tb
          exact ab_t32' (by omega)
      · rw [u2] at p
        have eE : lx_sk (w.2 1).2 lx_di (w.1 2) (w.1 8) = u.1 8 := by rw [← hE]; exact lx_sk_n p
        exact ⟨by omega, fun g => fin u h8 (by omega) u1 u2 eE g1 g2 _ (by rw [if_neg (by omega)]), fun g => fin u h8 (by omega) u1 u2 eE g1 g2 _ (by rw [if_pos (by omega)])⟩
  exact key (w.1 2 - w.1 8).toNat (ab_pf w 9 0) (by show w.1 8 + _ = _; omega) (by show w.1 7 ≤ w.1 8; omega) (fun f _ f9 => hd_pf_ne f9) rfl rfl (fun _ => rfl) (fun y => by have : (ab_pf w 9 0).1 8 = w.1 8 := rfl; omega) (fun y => by have : (ab_pf w 9 0).1 8 = w.1 8 := rfl; omega)
theorem c_advance (d : Nat) (w b : ab_Ob) (hl : rd_l w) (hT : ∀ q : Int, -128 ≤ (w.2 1).2 q ∧ (w.2 1).2 q ≤ 127) (h8 : 0 ≤ w.1 8 ∧ w.1 8 ≤ w.1 2) : ab_Ct (d + 3) 0 0 mX4_advance [ab_O 0] [w, b] (ab_V2 b (fun v => rd_f w v ∧ rd_at v (w.2 1).2 (w.1 2) (lx_sk (w.2 1).2 lx_sp (w.1 2) (w.1 8)))) := by
  obtain ⟨l1, l5, n0, n7⟩ := id hl
  refine ab_ct kX4_advance rfl rfl (fun x hx => vX4_advance_0 hx w b 0 0 ?_)
  have sb := lx_sk_b (T := (w.2 1).2) (P := lx_sp) (n := w.1 2) (p := w.1 8) h8.2
  -- the token at hand
  have tok : ∀ (u : ab_Ob), (∀ f, f ≠ 7 → u.1 f = w.1 f) → u.2 = w.2 → w.1 8 ≤ u.1 7 → lx_sk (w.2 1).2 lx_sp (w.1 2) (w.1 8) = u.1 7 → ((u.1 7 < u.1 2 → (∃ Q1 : Option ab_V → List ab_Ob → Prop, ab_Ct (d + 2) 0 0 mX4_isLetter [ab_O 0, ab_I (u.1 7)] [(ab_pf u 8 (u.1 7)), b] Q1 ∧ (∀ r2 : Int, Q1 (some (ab_I r2)) [(ab_pf u 8 (u.1 7)), b] → ((r2 = 0 → (∃ Q3 : Option ab_V → List ab_Ob → Prop, ab_Ct (d + 2) 0 0 mX4_isDigit [ab_O 0, ab_I (u.1 7)] [(ab_pf u 8 (u.1 7)), b] Q3 ∧ (∀ r4 : Int, Q3 (some (ab_I r4)) [(ab_pf u 8 (u.1 7)), b] → ((r4 = 0 → ((0 ≤ u.1 7 ∧ u.1 7 < (u.2 1).1) ∧ ((¬ ((u.2 1).2 (u.1 7)) = 59 → ((-2147483648 ≤ (u.1 7) + 1 ∧ (u.1 7) + 1 ≤ 2147483647) ∧ (((none : Option ab_V) = none ∧ ab_shw [true, false] [w, b] [(ab_pf (ab_pf (ab_pf u 8 (u.1 7)) 6 0) 8 ((u.1 7) + 1)), b]) ∧ ab_V2 b (fun v => rd_f w v ∧ rd_at v (w.2 1).2 (w.1 2) (lx_sk (w.2 1).2 lx_sp (w.1 2) (w.1 8))) none [(ab_pf (ab_pf (ab_pf u 8 (u.1 7)) 6 0) 8 ((u.1 7) + 1)), b]))) ∧ (((u.2 1).2 (u.1 7)) = 59 → ((-2147483648 ≤ (u.1 7) + 1 ∧ (u.1 7) + 1 ≤ 2147483647) ∧ (((none : Option ab_V) = none ∧ ab_shw [true, false] [w, b] [(ab_pf (ab_pf (ab_pf u 8 (u.1 7)) 6 4) 8 ((u.1 7) + 1)), b]) ∧ ab_V2 b (fun v => rd_f w v ∧ rd_at v (w.2 1).2 (w.1 2) (lx_sk (w.2 1).2 lx_sp (w.1 2) (w.1 8))) none [(ab_pf (ab_pf (ab_pf u 8 (u.1 7)) 6 4) 8 ((u.1 7) + 1)), b])))))) ∧ (¬ r4 = 0 → (∃ Q5 : Option ab_V → List ab_Ob → Prop, ab_Ct (d + 2) 0 0 mX4_takeWhole [ab_O 0] [(ab_pf u 8 (u.1 7)), b] Q5 ∧ (∀ v6 : ab_Ob, Q5 none [v6, b] → (((none : Option ab_V) = none ∧ ab_shw [true, false] [w, b] [v6, b]) ∧ ab_V2 b (fun v => rd_f w v ∧ rd_at v (w.2 1).2 (w.1 2) (lx_sk (w.2 1).2 lx_sp (w.1 2) (w.1 8))) none [v6, b])))))))) ∧ (¬ r2 = 0 → (∃ Q7 : Option ab_V → List ab_Ob → Prop, ab_Ct (d + 2) 0 0 mX4_takeWord [ab_O 0] [(ab_pf u 8 (u.1 7)), b] Q7 ∧ (∀ v8 : ab_Ob, Q7 none [v8, b] → (((none : Option ab_V) = none ∧ ab_shw [true, false] [w, b] [v8, b]) ∧ ab_V2 b (fun v => rd_f w v ∧ rd_at v (w.2 1).2 (w.1 2) (lx_sk (w.2 1).2 lx_sp (w.1 2) (w.1 8))) none [v8, b])))))))) ∧ (¬ u.1 7 < u.1 2 → (((none : Option ab_V) = none ∧ ab_shw [true, false] [w, b] [(ab_pf (ab_pf u 8 (u.1 7)) 6 1), b]) ∧ ab_V2 b (fun v => rd_f w v ∧ rd_at v (w.2 1).2 (w.1 2) (lx_sk (w.2 1).2 lx_sp (w.1 2) (w.1 8))) none [(ab_pf (ab_pf u 8 (u.1 7)) 6 1), b]))) := by
    intro u u1 u2 h7 eA
    have e2 : u.1 2 = w.1 2 := u1 2 (by decide)
    have x1 : (u.2 1).1 = 700 := by rw [u2]; exact l1
    have x2 : (u.2 1).2 = (w.2 1).2 := by rw [u2]
    rw [eA] at sb ⊢
    have frame : ∀ v : ab_Ob, (∀ f, f ≠ 6 → f ≠ 8 → f ≠ 9 → v.1 f = u.1 f) → v.2 = u.2 → rd_f w v := fun v v1 v2 => ⟨fun f f6 f7 f8 f9 => by rw [v1 f f6 f8 f9]; exact u1 f f7, by rw [v2]; exact u2⟩
    refine ⟨fun lt => ab_xb (c_isLetter (d + 1) (ab_pf u 8 (u.1 7)) b x1 (i := u.1 7) (by omega) (by omega)) (fun p => ⟨fun g => absurd g (by decide), fun _ => ?_⟩) (fun p => ⟨fun _ => ab_xb (c_isDigit (d + 1) (ab_pf u 8 (u.1 7)) b x1 (i := u.1 7) (by omega) (by omega)) (fun p2 => ⟨fun g => absurd g (by decide), fun _ => ?_⟩) (fun p2 => ⟨fun _ => ?_, fun g => absurd rfl g⟩), fun g => absurd rfl g⟩), fun nlt => ?_⟩
    · have p' : lx_le ((w.2 1).2 (u.1 7)) = true := by rw [← x2]; exact p
      refine ab_xv2 (c_takeWord d (ab_pf u 8 (u.1 7)) b ⟨x1, by rw [hd_pf_2, u2]; exact l5, by show 0 ≤ u.1 2; omega, by show u.1 2 ≤ 700; omega⟩ ⟨by show 0 ≤ u.1 7; omega, by show u.1 7 ≤ u.1 7; omega, by show u.1 7 ≤ u.1 2; omega⟩) (fun v hv => ab_lv2 ?_)
      obtain ⟨v1, v2, v3, v4⟩ := hv
      have a7 : (ab_pf u 8 (u.1 7)).1 7 = u.1 7 := rfl
      have a8 : (ab_pf u 8 (u.1 7)).1 8 = u.1 7 := rfl
      have a2 : (ab_pf u 8 (u.1 7)).1 2 = w.1 2 := e2
      rw [hd_pf_2, x2, a2, a8] at v3 v4
      rw [a7] at v2 v4
      have eE : lx_e (w.2 1).2 (w.1 2) (u.1 7) = lx_sk (w.2 1).2 lx_le (w.1 2) (u.1 7) := by
        unfold lx_e
        rw [if_neg (by omega), if_pos p']
      have eK : lx_k (w.2 1).2 (w.1 2) (u.1 7) = if lx_sk (w.2 1).2 lx_le (w.1 2) (u.1 7) - u.1 7 ≤ 6 then 2 else 0 := by
        unfold lx_k
        rw [if_neg (by omega), if_pos p', eE]
      refine ⟨⟨fun f f6 f7 f8 f9 => ?_, by rw [v1.2]; exact u2⟩, v2, by rw [eE]; exact v3, by rw [eK]; exact v4, fun k3 => ?_⟩
      · rw [v1.1 f f6 f7 f8 f9, hd_pf_ne f8]
        exact u1 f f7
      · rw [eK] at k3
        split at k3 <;> omega
    · have p' : ¬ lx_le ((w.2 1).2 (u.1 7)) = true := by rw [← x2]; exact p
      have p2' : lx_di ((w.2 1).2 (u.1 7)) = true := by rw [← x2]; exact p2
      refine ab_xv2 (c_takeWhole d (ab_pf u 8 (u.1 7)) b ⟨x1, by rw [hd_pf_2, u2]; exact l5, by show 0 ≤ u.1 2; omega, by show u.1 2 ≤ 700; omega⟩ (by rw [hd_pf_2, x2]; exact hT) ⟨by show 0 ≤ u.1 7; omega, rfl, by show u.1 7 ≤ u.1 2; omega⟩) (fun v hv => ab_lv2 ?_)
      obtain ⟨v1, v2, v3, v4, v5, v6⟩ := hv
      have a7 : (ab_pf u 8 (u.1 7)).1 7 = u.1 7 := rfl
      have a8 : (ab_pf u 8 (u.1 7)).1 8 = u.1 7 := rfl
      have a2 : (ab_pf u 8 (u.1 7)).1 2 = w.1 2 := e2
      rw [hd_pf_2, x2, a2, a8] at v3 v4
      rw [a7] at v2 v4 v5 v6
      rw [hd_pf_2, x2] at v5 v6
      have eE : lx_e (w.2 1).2 (w.1 2) (u.1 7) = lx_sk (w.2 1).2 lx_di (w.1 2) (u.1 7) := by
        unfold lx_e
        rw [if_neg (by omega), if_neg p', if_pos p2']
      have eK : lx_k (w.2 1).2 (w.1 2) (u.1 7) = if lx_sk (w.2 1).2 lx_di (w.1 2) (u.1 7) - u.1 7 ≤ 2 then 3 else 0 := by
        unfold lx_k
        rw [if_neg (by omega), if_neg p', if_pos p2', eE]
      have eb := lx_e_b (T := (w.2 1).2) (n := w.1 2) (a := u.1 7) (by omega)
      refine ⟨⟨fun f f6 f7 f8 f9 => ?_, by rw [v1.2]; exact u2⟩, v2, by rw [eE]; exact v3, by rw [eK]; exact v4, fun k3 => ?_⟩
      · rw [v1.1 f f6 f7 f8 f9, hd_pf_ne f8]
        exact u1 f f7
      · rw [eK] at k3
        unfold lx_n
        rw [eE] at eb ⊢
        by_cases g : lx_sk (w.2 1).2 lx_di (w.1 2) (u.1 7) - u.1 7 = 1
        · rw [if_pos g]
          exact v5 (by omega)
        · rw [if_neg g]
          refine v6 ?_
          split at k3 <;> omega
    · have p' : ¬ lx_le ((w.2 1).2 (u.1 7)) = true := by rw [← x2]; exact p
      have p2' : ¬ lx_di ((w.2 1).2 (u.1 7)) = true := by rw [← x2]; exact p2
      have eE : lx_e (w.2 1).2 (w.1 2) (u.1 7) = u.1 7 + 1 := by
        unfold lx_e
        rw [if_neg (by omega), if_neg p', if_neg p2']
      have eK : lx_k (w.2 1).2 (w.1 2) (u.1 7) = if (w.2 1).2 (u.1 7) = 59 then 4 else 0 := by
        unfold lx_k
        rw [if_neg (by omega), if_neg p', if_neg p2']
      refine ⟨by omega, fun g => ⟨by omega, ab_lv2 ⟨frame _ (fun f f6 f8 f9 => by rw [hd_pf_ne f8, hd_pf_ne f6, hd_pf_ne f8]) rfl, rfl, by rw [eE]; rfl, ?_, fun k3 => ?_⟩⟩, fun g => ⟨by omega, ab_lv2 ⟨frame _ (fun f f6 f8 f9 => by rw [hd_pf_ne f8, hd_pf_ne f6, hd_pf_ne f8]) rfl, rfl, by rw [eE]; rfl, ?_, fun k3 => ?_⟩⟩⟩
      · rw [eK, if_neg (by rw [← x2]; exact g)]; rfl
      · rw [eK] at k3
        split at k3 <;> omega
      · rw [eK, if_pos (by rw [← x2]; exact g)]; rfl
      · rw [eK] at k3
        split at k3 <;> omega
    · have eE : lx_e (w.2 1).2 (w.1 2) (u.1 7) = u.1 7 := if_pos (by omega)
      have eK : lx_k (w.2 1).2 (w.1 2) (u.1 7) = 1 := if_pos (by omega)
      exact ab_lv2 ⟨frame _ (fun f f6 f8 f9 => by rw [hd_pf_ne f6, hd_pf_ne f8]) rfl, rfl, by rw [eE]; rfl, by rw [eK]; rfl, fun k3 => by rw [eK] at k3; omega⟩
  have key : ∀ (q : Nat) (u : ab_Ob), u.1 7 + q = w.1 2 → (∀ f, f ≠ 7 → u.1 f = w.1 f) → u.2 = w.2 → w.1 8 ≤ u.1 7 → lx_sk (w.2 1).2 lx_sp (w.1 2) (w.1 8) = lx_sk (w.2 1).2 lx_sp (w.1 2) (u.1 7) → ab_J x 8 [some (ab_O 0)] [] [u, b] 0 0 := by
    intro q
    induction q with
    | zero =>
      intro u hq u1 u2 h7 eA
      have e2 : u.1 2 = w.1 2 := u1 2 (by decide)
      exact vX4_advance_8 hx u b 0 0 ⟨fun _ => tok u u1 u2 h7 (by rw [eA]; exact lx_sk_e (by omega)), fun g => absurd (by omega) g⟩
    | succ q ih =>
      intro u hq u1 u2 h7 eA
      push_cast at hq
      have e2 : u.1 2 = w.1 2 := u1 2 (by decide)
      refine vX4_advance_8 hx u b 0 0 ⟨fun g => absurd g (by omega), fun _ => ⟨by rw [u2]; omega, fun g => tok u u1 u2 h7 ?_, fun g => ⟨by omega, ih _ (by show u.1 7 + 1 + (q : Int) = _; omega) (fun f hf => by rw [hd_pf_ne hf]; exact u1 f hf) u2 (by show _ ≤ u.1 7 + 1; omega) ?_⟩⟩⟩
      · rw [eA]
        exact lx_sk_n (by rw [lx_sp_iff, ← u2]; exact g)
      · rw [eA, hd_pf_eq]
        exact lx_sk_y (by omega) (by rw [lx_sp_iff, ← u2]; exact g)
  exact key (w.1 2 - w.1 8).toNat (ab_pf w 7 (w.1 8)) (by show w.1 8 + _ = _; omega) (fun f hf => hd_pf_ne hf) rfl (by show w.1 8 ≤ w.1 8; omega) rfl
