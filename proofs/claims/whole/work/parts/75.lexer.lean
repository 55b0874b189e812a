/-! TOKENS: mathematics -/
def lx_sp (x : Int) : Bool := decide (x = 32)
def lx_le (x : Int) : Bool := decide (97 ≤ x) && decide (x ≤ 122)
def lx_di (x : Int) : Bool := decide (48 ≤ x) && decide (x ≤ 57)
theorem lx_le_iff {x : Int} : lx_le x = true ↔ 97 ≤ x ∧ x ≤ 122 := by unfold lx_le; simp
theorem lx_di_iff {x : Int} : lx_di x = true ↔ 48 ≤ x ∧ x ≤ 57 := by unfold lx_di; simp
theorem lx_sp_iff {x : Int} : lx_sp x = true ↔ x = 32 := by unfold lx_sp; simp
def lx_go (T : Int → Int) (P : Int → Bool) : Nat → Int → Int
  | 0, p => p
  | k + 1, p => if P (T p) = true then lx_go T P k (p + 1) else p
/-- the first place from p on, below n, whose sign isn't so; n -/
def lx_sk (T : Int → Int) (P : Int → Bool) (n p : Int) : Int := lx_go T P (n - p).toNat p
theorem lx_sk_e {T : Int → Int} {P : Int → Bool} {n p : Int} (h : n ≤ p) : lx_sk T P n p = p := by
  unfold lx_sk
  rw [show (n - p).toNat = 0 by omega]
  rfl
theorem lx_sk_y {T : Int → Int} {P : Int → Bool} {n p : Int} (h : p < n) (hp : P (T p) = true) : lx_sk T P n p = lx_sk T P n (p + 1) := by
  unfold lx_sk
  rw [show (n - p).toNat = (n - (p + 1)).toNat + 1 by omega]
  simp only [lx_go]
  rw [if_pos hp]
theorem lx_sk_n {T : Int → Int} {P : Int → Bool} {n p : Int} (hp : ¬ P (T p) = true) : lx_sk T P n p = p := by
  unfold lx_sk
  cases (n - p).toNat with
  | zero => rfl
  | succ k =>
    simp only [lx_go]
    rw [if_neg hp]
theorem lx_sk_in {T : Int → Int} {P : Int → Bool} {n : Int} : ∀ (q : Nat) {p : Int}, p + q = n → p ≤ lx_sk T P n p ∧ lx_sk T P n p ≤ n ∧ ∀ z : Int, p ≤ z → z < lx_sk T P n p → P (T z) = true
  | 0, p, h => by
    rw [lx_sk_e (by omega)]
    exact ⟨by omega, by omega, fun z z1 z2 => absurd z2 (by omega)⟩
  | q + 1, p, h => by
    push_cast at h
    by_cases hp : P (T p) = true
    · have ih := lx_sk_in (T := T) (P := P) (n := n) q (p := p + 1) (by omega)
      rw [lx_sk_y (by omega) hp]
      refine ⟨by omega, by omega, fun z z1 z2 => ?_⟩
      by_cases e : z = p
      · subst e; exact hp
      · exact ih.2.2 z (by omega) z2
    · rw [lx_sk_n hp]
      exact ⟨by omega, by omega, fun z z1 z2 => absurd z2 (by omega)⟩
theorem lx_sk_b {T : Int → Int} {P : Int → Bool} {n p : Int} (h : p ≤ n) : p ≤ lx_sk T P n p ∧ lx_sk T P n p ≤ n ∧ ∀ z : Int, p ≤ z → z < lx_sk T P n p → P (T z) = true := lx_sk_in (n - p).toNat (by omega)
/-- a token that begins at a: the place behind it, its kind, its number -/
def lx_e (T : Int → Int) (n a : Int) : Int := if n ≤ a then a else if lx_le (T a) = true then lx_sk T lx_le n a else if lx_di (T a) = true then lx_sk T lx_di n a else a + 1
def lx_k (T : Int → Int) (n a : Int) : Int := if n ≤ a then 1 else if lx_le (T a) = true then (if lx_e T n a - a ≤ 6 then 2 else 0) else if lx_di (T a) = true then (if lx_e T n a - a ≤ 2 then 3 else 0) else if T a = 59 then 4 else 0
def lx_n (T : Int → Int) (n a : Int) : Int := if lx_e T n a - a = 1 then T a - 48 else (T a - 48) * 10 + (T (a + 1) - 48)
/-- where the next token begins -/
def lx_x (T : Int → Int) (n a : Int) : Int := lx_sk T lx_sp n (lx_e T n a)
theorem lx_e_b {T : Int → Int} {n a : Int} (h : a ≤ n) : a ≤ lx_e T n a ∧ lx_e T n a ≤ n ∧ (a < n → a < lx_e T n a) := by
  unfold lx_e
  by_cases h1 : n ≤ a
  · rw [if_pos h1]; omega
  · rw [if_neg h1]
    by_cases h2 : lx_le (T a) = true
    · rw [if_pos h2, lx_sk_y (by omega) h2]
      have := lx_sk_b (T := T) (P := lx_le) (n := n) (p := a + 1) (by omega)
      omega
    · rw [if_neg h2]
      by_cases h3 : lx_di (T a) = true
      · rw [if_pos h3, lx_sk_y (by omega) h3]
        have := lx_sk_b (T := T) (P := lx_di) (n := n) (p := a + 1) (by omega)
        omega
      · rw [if_neg h3]; omega
theorem lx_x_b {T : Int → Int} {n a : Int} (h : a ≤ n) : lx_e T n a ≤ lx_x T n a ∧ lx_x T n a ≤ n := by
  have h1 := lx_e_b (T := T) h
  have := lx_sk_b (T := T) (P := lx_sp) (n := n) (p := lx_e T n a) h1.2.1
  unfold lx_x
  omega
/-! the class's reader: tokens -/
/-- the reader's token is the one that begins at a -/
def rd_at (w : ab_Ob) (T : Int → Int) (n a : Int) : Prop := w.1 7 = a ∧ w.1 8 = lx_e T n a ∧ w.1 6 = lx_k T n a ∧ (lx_k T n a = 3 → w.1 9 = lx_n T n a)
def rd_f (w v : ab_Ob) : Prop := (∀ f, f ≠ 6 → f ≠ 7 → f ≠ 8 → f ≠ 9 → v.1 f = w.1 f) ∧ v.2 = w.2
theorem rd_f_t {u v w : ab_Ob} (h1 : rd_f u v) (h2 : rd_f v w) : rd_f u w := ⟨fun f a b c d => by rw [h2.1 f a b c d]; exact h1.1 f a b c d, by rw [h2.2]; exact h1.2⟩
def rd_l (w : ab_Ob) : Prop := (w.2 1).1 = 700 ∧ (w.2 5).1 = 6 ∧ 0 ≤ w.1 2 ∧ w.1 2 ≤ 700
theorem rd_f_l {v w : ab_Ob} (h1 : rd_f w v) (h2 : rd_l w) : rd_l v := by
  unfold rd_l at h2 ⊢
  rw [h1.2, h1.1 2 (by decide) (by decide) (by decide) (by decide)]
  exact h2
/-- the kind of the sign at i -/
def lx_kd (T : Int → Int) (n i : Int) : Int := if n ≤ i then 1 else if 97 ≤ T i ∧ T i ≤ 122 then 2 else if 48 ≤ T i ∧ T i ≤ 57 then 3 else if T i = 59 then 4 else 0
theorem lx_kd_le {T : Int → Int} {n z : Int} (h : z < n) : lx_kd T n z = 2 ↔ lx_le (T z) = true := by
  rw [lx_le_iff]
  unfold lx_kd
  rw [if_neg (by omega)]
  repeat' split
  all_goals omega
theorem lx_kd_di {T : Int → Int} {n z : Int} (h : z < n) : lx_kd T n z = 3 ↔ lx_di (T z) = true := by
  rw [lx_di_iff]
  unfold lx_kd
  rw [if_neg (by omega)]
  repeat' split
  all_goals omega
theorem lx_kd_1 {T : Int → Int} {n a : Int} (h : n ≤ a) : lx_kd T n a = 1 := if_pos h
theorem lx_kd_lt {T : Int → Int} {n a : Int} (h : ¬ lx_kd T n a = 1) : a < n := by
  by_cases g : n ≤ a
  · exact absurd (lx_kd_1 g) h
  · omega
theorem lx_kd_ge {T : Int → Int} {n a : Int} (h : lx_kd T n a = 1) : n ≤ a := by
  by_cases g : n ≤ a
  · exact g
  · exfalso
    unfold lx_kd at h
    rw [if_neg g] at h
    revert h
    repeat' split
    all_goals (intro h; omega)
/-- a token's end and kind, by the kind of its first sign -/
theorem lx_e_1 {T : Int → Int} {n a : Int} (h : lx_kd T n a = 1) : lx_e T n a = a := if_pos (lx_kd_ge h)
theorem lx_e_2 {T : Int → Int} {n a : Int} (h : lx_kd T n a = 2) : lx_e T n a = lx_sk T lx_le n (a + 1) := by
  have l := lx_kd_lt (T := T) (n := n) (a := a) (by omega)
  have h2 := (lx_kd_le l).mp h
  unfold lx_e
  rw [if_neg (by omega), if_pos h2]
  exact lx_sk_y l h2
theorem lx_e_3 {T : Int → Int} {n a : Int} (h : lx_kd T n a = 3) : lx_e T n a = lx_sk T lx_di n (a + 1) := by
  have l := lx_kd_lt (T := T) (n := n) (a := a) (by omega)
  have h2 : ¬ lx_le (T a) = true := fun g => by
    have := (lx_kd_le l).mpr g
    omega
  have h3 := (lx_kd_di l).mp h
  unfold lx_e
  rw [if_neg (by omega), if_neg h2, if_pos h3]
  exact lx_sk_y l h3
theorem lx_e_0 {T : Int → Int} {n a : Int} (h1 : ¬ lx_kd T n a = 1) (h2 : ¬ lx_kd T n a = 2) (h3 : ¬ lx_kd T n a = 3) : lx_e T n a = a + 1 := by
  have l := lx_kd_lt h1
  unfold lx_e
  rw [if_neg (by omega), if_neg (fun g => h2 ((lx_kd_le l).mpr g)), if_neg (fun g => h3 ((lx_kd_di l).mpr g))]
theorem lx_k_of (T : Int → Int) (n a : Int) : lx_k T n a = if lx_kd T n a = 2 then (if lx_e T n a - a ≤ 6 then 2 else 0) else if lx_kd T n a = 3 then (if lx_e T n a - a ≤ 2 then 3 else 0) else lx_kd T n a := by
  unfold lx_k
  by_cases h1 : n ≤ a
  · rw [if_pos h1, lx_kd_1 h1, if_neg (by decide), if_neg (by decide)]
  · have l : a < n := by omega
    rw [if_neg h1]
    by_cases h2 : lx_le (T a) = true
    · rw [if_pos h2, if_pos ((lx_kd_le l).mpr h2)]
    · rw [if_neg h2, if_neg (fun g => h2 ((lx_kd_le l).mp g))]
      by_cases h3 : lx_di (T a) = true
      · rw [if_pos h3, if_pos ((lx_kd_di l).mpr h3)]
      · rw [if_neg h3, if_neg (fun g => h3 ((lx_kd_di l).mp g))]
        rw [lx_le_iff] at h2
        rw [lx_di_iff] at h3
        unfold lx_kd
        rw [if_neg h1, if_neg h2, if_neg h3]
theorem lx_k3 {T : Int → Int} {n a : Int} (h : a ≤ n) (k : lx_k T n a = 3) : lx_e T n a - a = 1 ∨ lx_e T n a - a = 2 := by
  have eb := lx_e_b (T := T) h
  rw [lx_k_of] at k
  by_cases h2 : lx_kd T n a = 2
  · rw [if_pos h2] at k
    split at k <;> omega
  · rw [if_neg h2] at k
    by_cases h3 : lx_kd T n a = 3
    · have l := lx_kd_lt (T := T) (n := n) (a := a) (by omega)
      rw [if_pos h3] at k
      split at k <;> omega
    · rw [if_neg h3] at k
      exact absurd k h3
theorem c_kindAt (d : Nat) (w b : ab_Ob) (hl : rd_l w) {i : Int} (h0 : 0 ≤ i) : ab_Ct (d + 1) 0 0 mX4_kindAt [ab_O 0, ab_I i] [w, b] (ab_Is (lx_kd (w.2 1).2 (w.1 2) i) [w, b]) := by
  obtain ⟨l1, l5, n0, n7⟩ := hl
  refine ab_ct kX4_kindAt rfl rfl (fun x hx => vX4_kindAt_0 hx i w b 0 0 ⟨fun g => ⟨by omega, fun g1 => ⟨fun g2 => ⟨fun g3 => ab_lf rfl ?_, fun g3 => ab_lf rfl ?_⟩, fun g2 => ⟨fun g3 => ⟨fun g4 => ab_lf rfl ?_, fun g4 => ab_lf rfl ?_⟩, fun g3 => ab_lf rfl ?_⟩⟩, fun g1 => ⟨fun g2 => ⟨fun g3 => ⟨fun g4 => ab_lf rfl ?_, fun g4 => ab_lf rfl ?_⟩, fun g3 => ⟨fun g4 => ⟨fun g5 => ab_lf rfl ?_, fun g5 => ab_lf rfl ?_⟩, fun g4 => ab_lf rfl ?_⟩⟩, fun g2 => ab_lf rfl ?_⟩⟩, fun g => ab_lf rfl ?_⟩)
  all_goals unfold lx_kd
  all_goals repeat' split
  all_goals omega
theorem c_numberSaid (d : Nat) (w b : ab_Ob) (hl : rd_l w) (hT : ∀ q : Int, -128 ≤ (w.2 1).2 q ∧ (w.2 1).2 q ≤ 127) (h7 : 0 ≤ w.1 7) (h8 : w.1 8 ≤ 700) (hc : w.1 8 - w.1 7 = 1 ∨ w.1 8 - w.1 7 = 2) : ab_Ct (d + 1) 0 0 mX4_numberSaid [ab_O 0] [w, b] (ab_Is (if w.1 8 - w.1 7 = 1 then (w.2 1).2 (w.1 7) - 48 else ((w.2 1).2 (w.1 7) - 48) * 10 + ((w.2 1).2 (w.1 7 + 1) - 48)) [w, b]) := by
  obtain ⟨l1, l5, n0, n7⟩ := hl
  have t0 := hT (w.1 7)
  have t1 := hT (w.1 7 + 1)
  refine ab_ct kX4_numberSaid rfl rfl (fun x hx => vX4_numberSaid_0 hx w b 0 0 (vX4_numberSaid_7 hx 0 (w.1 7) w b 0 0 ⟨fun g => absurd g (by omega), fun _ => ⟨by omega, by omega, by omega, by omega, by omega, ?_⟩⟩))
  rcases hc with hc | hc
  · refine vX4_numberSaid_7 hx _ _ w b 0 0 ⟨fun _ => ab_lf rfl ?_, fun g => absurd (by omega) g⟩
    rw [if_pos hc]
    omega
  · refine vX4_numberSaid_7 hx _ _ w b 0 0 ⟨fun g => absurd g (by omega), fun _ => ⟨by omega, by omega, by omega, by omega, by omega, vX4_numberSaid_7 hx _ _ w b 0 0 ⟨fun _ => ab_lf rfl ?_, fun g => absurd (by omega) g⟩⟩⟩
    rw [if_neg (by omega)]
    omega
theorem c_advance (d : Nat) (w b : ab_Ob) (hl : rd_l w) (hT : ∀ q : Int, -128 ≤ (w.2 1).2 q ∧ (w.2 1).2 q ≤ 127) (h8 : 0 ≤ w.1 8 ∧ w.1 8 ≤ w.1 2) : ab_Ct (d + 3) 0 0 mX4_advance [ab_O 0] [w, b] (ab_V2 b (fun v => rd_f w v ∧ rd_at v (w.2 1).2 (w.1 2) (lx_sk (w.2 1).2 lx_sp (w.1 2) (w.1 8)))) := by
  obtain ⟨l1, l5, n0, n7⟩ := id hl
  refine ab_ct kX4_advance rfl rfl (fun x hx => vX4_advance_0 hx w b 0 0 ?_)
  have sb := lx_sk_b (T := (w.2 1).2) (P := lx_sp) (n := w.1 2) (p := w.1 8) h8.2
  obtain ⟨a, ea⟩ : ∃ a, lx_sk (w.2 1).2 lx_sp (w.1 2) (w.1 8) = a := ⟨_, rfl⟩
  rw [ea] at sb
  have eb := lx_e_b (T := (w.2 1).2) (n := w.1 2) (a := a) (by omega)
  -- the number
  have fin : ∀ u : ab_Ob, rd_f w u → u.1 7 = a → u.1 8 = lx_e (w.2 1).2 (w.1 2) a → u.1 6 = lx_k (w.2 1).2 (w.1 2) a → ab_J x 196 [some (ab_O 0), none] [] [u, b] 0 0 := by
    intro u uf u7 u8 u6
    have fr : ∀ z : Int, rd_f w (ab_pf u 9 z) := fun z => ⟨fun f f6 f7 f8 f9 => by rw [hd_pf_ne f9]; exact uf.1 f f6 f7 f8 f9, uf.2⟩
    refine vX4_advance_196 hx u b 0 0 ⟨fun g => ab_lv2 ?_, fun g => ab_x1 (c_numberSaid (d + 1) u b (rd_f_l uf hl) (by rw [uf.2]; exact hT) (by omega) (by omega) (by rw [u7, u8]; exact lx_k3 (by omega) (u6.symm.trans g))) (ab_lv2 ?_)⟩
    · rw [ea]
      exact ⟨fr 0, u7, u8, u6, fun k3 => absurd (u6.trans k3) g⟩
    · rw [ea]
      refine ⟨fr _, u7, u8, u6, fun _ => ?_⟩
      rw [hd_pf_eq, u7, u8, uf.2]
      rfl
  -- too many signs
  have cut : ∀ u : ab_Ob, rd_f w u → u.1 7 = a → u.1 8 = lx_e (w.2 1).2 (w.1 2) a → u.1 6 = lx_kd (w.2 1).2 (w.1 2) a → ab_J x 148 [some (ab_O 0), none] [] [u, b] 0 0 := by
    intro u uf u7 u8 u6
    have K := lx_k_of (w.2 1).2 (w.1 2) a
    have fr : rd_f w (ab_pf u 6 0) := ⟨fun f f6 f7 f8 f9 => by rw [hd_pf_ne f6]; exact uf.1 f f6 f7 f8 f9, uf.2⟩
    refine vX4_advance_148 hx u b 0 0 ⟨fun g => ⟨fun g2 => fin u uf u7 u8 ?_, fun g2 => ⟨by omega, fun g3 => fin u uf u7 u8 ?_, fun g3 => fin _ fr u7 u8 ?_⟩⟩, fun g => ⟨by omega, fun g2 => fin _ fr u7 u8 ?_, fun g2 => ⟨fun g3 => fin u uf u7 u8 ?_, fun g3 => absurd g3 (by omega)⟩⟩⟩
    · rw [K, if_neg (by omega), if_neg (by omega)]
      exact u6
    · rw [K, if_neg (by omega), if_pos (by omega), if_pos (by omega)]
      exact g2
    · rw [K, if_neg (by omega), if_pos (by omega), if_neg (by omega)]
      rfl
    · rw [K, if_pos (by omega), if_neg (by omega)]
      rfl
    · rw [K, if_pos (by omega), if_pos (by omega)]
      exact g
  -- signs that stand together
  have run : ∀ P : Int → Bool, (∀ z : Int, z < w.1 2 → (lx_kd (w.2 1).2 (w.1 2) z = lx_kd (w.2 1).2 (w.1 2) a ↔ P ((w.2 1).2 z) = true)) → ∀ (q : Nat) (u : ab_Ob), u.1 8 + q = w.1 2 → rd_f w u → u.1 7 = a → 0 ≤ u.1 8 → u.1 6 = lx_kd (w.2 1).2 (w.1 2) a → lx_sk (w.2 1).2 P (w.1 2) (u.1 8) = lx_e (w.2 1).2 (w.1 2) a → ab_J x 105 [some (ab_O 0), some (ab_I 1)] [] [u, b] 0 0 := by
    intro P hP q
    induction q with
    | zero =>
      intro u hq uf u7 hle u6 hE
      have e2 : u.1 2 = w.1 2 := uf.1 2 (by decide) (by decide) (by decide) (by decide)
      exact vX4_advance_105 hx 1 u b 0 0 ⟨fun g => absurd g (by decide), fun _ => ⟨fun _ => cut u uf u7 ((lx_sk_e (by omega)).symm.trans hE) u6, fun g => absurd (by omega) g⟩⟩
    | succ q ih =>
      intro u hq uf u7 hle u6 hE
      push_cast at hq
      have e2 : u.1 2 = w.1 2 := uf.1 2 (by decide) (by decide) (by decide) (by decide)
      have lt : u.1 8 < w.1 2 := by omega
      refine vX4_advance_105 hx 1 u b 0 0 ⟨fun g => absurd g (by decide), fun _ => ⟨fun g => absurd g (by omega), fun _ => ab_x1 (c_kindAt (d + 1) u b (rd_f_l uf hl) hle) ⟨fun g => cut u uf u7 ?_ u6, fun g => ⟨by omega, ih (ab_pf u 8 (u.1 8 + 1)) ?_ ⟨fun f f6 f7 f8 f9 => by rw [hd_pf_ne f8]; exact uf.1 f f6 f7 f8 f9, uf.2⟩ u7 ?_ u6 ?_⟩⟩⟩⟩
      · rw [uf.2, e2, u6] at g
        exact (lx_sk_n (fun p => g ((hP _ lt).mpr p))).symm.trans hE
      · show u.1 8 + 1 + (q : Int) = _
        omega
      · show 0 ≤ u.1 8 + 1
        omega
      · rw [uf.2, e2, u6] at g
        rw [hd_pf_eq]
        exact (lx_sk_y lt ((hP _ lt).mp g)).symm.trans hE
  have one : ∀ u : ab_Ob, rd_f w u → u.1 7 = a → u.1 8 = lx_e (w.2 1).2 (w.1 2) a → u.1 6 = lx_kd (w.2 1).2 (w.1 2) a → ab_J x 105 [some (ab_O 0), some (ab_I 0)] [] [u, b] 0 0 := fun u uf u7 u8 u6 => vX4_advance_105 hx 0 u b 0 0 ⟨fun _ => cut u uf u7 u8 u6, fun g => absurd rfl g⟩
  -- the token at hand
  have tok : ∀ u : ab_Ob, rd_f w u → u.1 7 = a → ab_J x 46 [some (ab_O 0), none] [] [u, b] 0 0 := by
    intro u uf u7
    have e2 : u.1 2 = w.1 2 := uf.1 2 (by decide) (by decide) (by decide) (by decide)
    have ek : lx_kd (u.2 1).2 (u.1 2) (u.1 7) = lx_kd (w.2 1).2 (w.1 2) a := by rw [uf.2, e2, u7]
    have c : ab_Ct (d + 2) 0 0 mX4_kindAt [ab_O 0, ab_I (u.1 7)] [u, b] (ab_Is (lx_kd (w.2 1).2 (w.1 2) a) [u, b]) := by
      rw [← ek]
      exact c_kindAt (d + 1) u b (rd_f_l uf hl) (by omega)
    have fr : ∀ z : Int, rd_f w (ab_pf (ab_pf u 6 (lx_kd (w.2 1).2 (w.1 2) a)) 8 z) := fun z => ⟨fun f f6 f7 f8 f9 => by rw [hd_pf_ne f8, hd_pf_ne f6]; exact uf.1 f f6 f7 f8 f9, uf.2⟩
    refine vX4_advance_46 hx u b 0 0 (ab_x1 c ⟨fun g1 => ⟨by omega, fun g2 => run lx_le ?_ (w.1 2 - (u.1 7 + 1)).toNat _ ?_ (fr _) u7 ?_ rfl ?_, fun g2 => ⟨fun g3 => one _ (fr _) u7 ?_ rfl, fun g3 => run lx_di ?_ (w.1 2 - (u.1 7 + 1)).toNat _ ?_ (fr _) u7 ?_ rfl ?_⟩⟩, fun g1 => ⟨fun g2 => absurd g2 (by omega), fun g2 => ⟨fun g3 => one _ (fr _) u7 ?_ rfl, fun g3 => absurd g3 (by omega)⟩⟩⟩)
    · intro z hz
      rw [g2]
      exact lx_kd_le hz
    · have := lx_kd_lt g1
      show u.1 7 + 1 + _ = _
      omega
    · show 0 ≤ u.1 7 + 1
      omega
    · rw [hd_pf_eq, lx_e_2 g2, u7]
    · rw [hd_pf_eq, lx_e_0 g1 g2 g3, u7]
    · intro z hz
      rw [g3]
      exact lx_kd_di hz
    · have := lx_kd_lt g1
      show u.1 7 + 1 + _ = _
      omega
    · show 0 ≤ u.1 7 + 1
      omega
    · rw [hd_pf_eq, lx_e_3 g3, u7]
    · rw [hd_pf_eq, lx_e_1 g1, u7]
  have key : ∀ (q : Nat) (u : ab_Ob), u.1 7 + q = w.1 2 → (∀ f, f ≠ 7 → u.1 f = w.1 f) → u.2 = w.2 → w.1 8 ≤ u.1 7 → lx_sk (w.2 1).2 lx_sp (w.1 2) (u.1 7) = a → ab_J x 8 [some (ab_O 0), none] [] [u, b] 0 0 := by
    intro q
    induction q with
    | zero =>
      intro u hq u1 u2 h7 eA
      have e2 : u.1 2 = w.1 2 := u1 2 (by decide)
      exact vX4_advance_8 hx u b 0 0 ⟨fun _ => tok u ⟨fun f f6 f7 f8 f9 => u1 f f7, u2⟩ ((lx_sk_e (by omega)).symm.trans eA), fun g => absurd (by omega) g⟩
    | succ q ih =>
      intro u hq u1 u2 h7 eA
      push_cast at hq
      have e2 : u.1 2 = w.1 2 := u1 2 (by decide)
      refine vX4_advance_8 hx u b 0 0 ⟨fun g => absurd g (by omega), fun _ => ⟨by rw [u2]; omega, fun g => tok u ⟨fun f f6 f7 f8 f9 => u1 f f7, u2⟩ ?_, fun g => ⟨by omega, ih _ (by show u.1 7 + 1 + (q : Int) = _; omega) (fun f hf => by rw [hd_pf_ne hf]; exact u1 f hf) u2 (by show _ ≤ u.1 7 + 1; omega) ?_⟩⟩⟩
      · exact (lx_sk_n (by rw [lx_sp_iff, ← u2]; exact g)).symm.trans eA
      · rw [hd_pf_eq]
        exact (lx_sk_y (by omega) (by rw [lx_sp_iff, ← u2]; exact g)).symm.trans eA
  exact key (w.1 2 - w.1 8).toNat (ab_pf w 7 (w.1 8)) (by show w.1 8 + _ = _; omega) (fun f hf => hd_pf_ne hf) rfl (by show w.1 8 ≤ w.1 8; omega) ea
