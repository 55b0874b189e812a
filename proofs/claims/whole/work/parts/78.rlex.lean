/-! THE REFERENCE: tokens (rows wb_.. are of kit/laws/BITS.to-paste) -/
theorem wb_tb (n : Nat) : (lN n).toBitVec = BitVec.ofNat 64 n := rfl
theorem wb_inj {a b : Int64} (h : a.toBitVec = b.toBitVec) : a = b := Int64.toBitVec_inj.mp h
theorem wb_c : ∀ k, k < 64 → ((nI k).toInt64 &&& 63) = lN k := by decide +kernel
theorem wb_sm : ∀ k, k < 64 → (BitVec.ofNat 64 k).smod 64 = BitVec.ofNat 64 k := by decide +kernel
theorem wb_shl (n : Nat) {k : Nat} (hk : k < 64) : lN n <<< ((nI k).toInt64 &&& 63) = lN (n * 2 ^ k) := by
  rw [wb_c k hk]
  apply wb_inj
  rw [Int64.toBitVec_shiftLeft, wb_tb, wb_tb, wb_tb, wb_sm k hk]
  apply BitVec.eq_of_toNat_eq
  rw [BitVec.shiftLeft_eq', BitVec.toNat_shiftLeft, BitVec.toNat_ofNat, BitVec.toNat_ofNat, BitVec.toNat_ofNat, Nat.mod_eq_of_lt (show k < 2 ^ 64 by omega), Nat.shiftLeft_eq, Nat.mul_mod, Nat.mod_mod, ← Nat.mul_mod]
theorem wb_or {a b : Nat} (ha : a < 2 ^ 64) (hb : b < 2 ^ 64) : lN a ||| lN b = lN (a ||| b) := by
  apply wb_inj
  rw [Int64.toBitVec_or, wb_tb, wb_tb, wb_tb]
  apply BitVec.eq_of_toNat_eq
  rw [BitVec.toNat_or, BitVec.toNat_ofNat, BitVec.toNat_ofNat, BitVec.toNat_ofNat, Nat.mod_eq_of_lt ha, Nat.mod_eq_of_lt hb, Nat.mod_eq_of_lt (Nat.or_lt_two_pow ha hb)]
theorem pk_ofI (n : Nat) : Int64.ofInt (n : Int) = lN n := by
  apply wb_inj
  rw [wb_tb]
  show BitVec.ofInt 64 (n : Int) = _
  exact BitVec.ofInt_natCast 64 n
theorem pk_st {w b : Int} (hw : 0 ≤ w ∧ w < 1099511627776) (hb : 0 ≤ b ∧ b < 256) : (Int64.ofInt ((Int64.ofInt w <<< ((Int32.ofInt 8).toInt64 &&& 63)).toInt) ||| Int64.ofInt b).toInt = w * 256 + b := by
  obtain ⟨x, rfl⟩ : ∃ x : Nat, w = x := ⟨w.toNat, by omega⟩
  obtain ⟨y, rfl⟩ : ∃ y : Nat, b = y := ⟨b.toNat, by omega⟩
  have e8 : (Int32.ofInt 8).toInt64 &&& 63 = (nI 8).toInt64 &&& 63 := rfl
  rw [Int64.ofInt_toInt, e8, pk_ofI, pk_ofI, wb_shl x (by decide : 8 < 64), wb_or (by omega) (by omega)]
  have h1 : x * 2 ^ 8 ||| y = x * 256 + y := by
    rw [← Nat.shiftLeft_eq, ← Nat.shiftLeft_add_eq_or_of_lt (by omega), Nat.shiftLeft_eq]
  rw [h1]
  show (Int64.ofNat (x * 256 + y)).toInt = _
  rw [lg_ofNat_toInt (by omega)]
  omega
theorem pk_p5 : ∀ k : Fin 6, (256 : Int) ^ k.val ≤ 1099511627776 := by decide +kernel
/-- numbers out of bytes -/
def pd (D : Nat → Int) : Nat → Int
  | 0 => 0
  | k + 1 => pd D k * 256 + D k
theorem pd_congr {D D' : Nat → Int} : ∀ {k : Nat}, (∀ t, t < k → D t = D' t) → pd D k = pd D' k
  | 0, _ => rfl
  | k + 1, h => by
    simp only [pd]
    rw [pd_congr (fun t ht => h t (by omega)), h k (by omega)]
theorem pd_b {D : Nat → Int} : ∀ {k : Nat}, (∀ t, t < k → 1 ≤ D t ∧ D t ≤ 255) → 0 ≤ pd D k ∧ pd D k < 256 ^ k
  | 0, _ => by simp [pd]
  | k + 1, h => by
    have ih := pd_b (fun t ht => h t (by omega)) (k := k)
    have hk := h k (by omega)
    simp only [pd]
    rw [Int.pow_succ]
    omega
theorem pd_inj {D D' : Nat → Int} : ∀ {m m' : Nat}, (∀ t, t < m → 1 ≤ D t ∧ D t ≤ 255) → (∀ t, t < m' → 1 ≤ D' t ∧ D' t ≤ 255) → pd D m = pd D' m' → m = m' ∧ ∀ t, t < m → D t = D' t
  | 0, 0, _, _, _ => ⟨rfl, fun t ht => absurd ht (by omega)⟩
  | 0, m' + 1, _, h', e => by
    have := pd_b (D := D') (k := m') (fun t ht => h' t (by omega))
    have := h' m' (by omega)
    simp only [pd] at e
    omega
  | m + 1, 0, h, _, e => by
    have := pd_b (D := D) (k := m) (fun t ht => h t (by omega))
    have := h m (by omega)
    simp only [pd] at e
    omega
  | m + 1, m' + 1, h, h', e => by
    have a1 := h m (by omega)
    have a2 := h' m' (by omega)
    simp only [pd] at e
    obtain ⟨em, et⟩ := pd_inj (D := D) (D' := D') (m := m) (m' := m') (fun t ht => h t (by omega)) (fun t ht => h' t (by omega)) (by omega)
    subst em
    refine ⟨rfl, fun t ht => ?_⟩
    by_cases g : t = m
    · subst g; omega
    · exact et t (by omega)
def rt_l (m : ab_Ob) : Prop := (m.2 16).1 = 700 ∧ (m.2 4).1 = 55 ∧ 0 ≤ m.1 18 ∧ m.1 18 ≤ 700
def rt_f (m v : ab_Ob) : Prop := (∀ f, f ≠ 19 → f ≠ 20 → f ≠ 21 → f ≠ 22 → f ≠ 23 → f ≠ 24 → v.1 f = m.1 f) ∧ v.2 = m.2
theorem rt_f_t {u v w : ab_Ob} (h1 : rt_f u v) (h2 : rt_f v w) : rt_f u w := ⟨fun f a b c d e g => by rw [h2.1 f a b c d e g]; exact h1.1 f a b c d e g, by rw [h2.2]; exact h1.2⟩
theorem rt_f_r (u : ab_Ob) : rt_f u u := ⟨fun _ _ _ _ _ _ _ => rfl, rfl⟩
theorem rt_f_l {v w : ab_Ob} (h1 : rt_f w v) (h2 : rt_l w) : rt_l v := by
  unfold rt_l at h2 ⊢
  rw [h1.2, h1.1 18 (by decide) (by decide) (by decide) (by decide) (by decide) (by decide)]
  exact h2
/-- the reference's token is the one that begins at a -/
def rt_at (m : ab_Ob) (T : Int → Int) (n a : Int) : Prop := m.1 21 = a ∧ m.1 19 = lx_e T n a ∧ m.1 20 = lx_k T n a ∧ (lx_k T n a = 3 → m.1 22 = lx_n T n a) ∧ (lx_k T n a = 2 → m.1 24 = pd (fun t => T (a + t)) (lx_e T n a - a).toNat)
def rt_b (T : Int → Int) (n k : Int) : Int := if n ≤ k then -1 else if T k < 0 then T k + 256 else T k
theorem rt_u8f : ∀ i : Fin 256, (Int32.ofInt ((i.val : Int) - 128) &&& Int32.ofInt 255).toInt = if (i.val : Int) - 128 < 0 then (i.val : Int) - 128 + 256 else (i.val : Int) - 128 := by decide +kernel
theorem rt_u8 {x : Int} (h : -128 ≤ x ∧ x ≤ 127) : (Int32.ofInt x &&& Int32.ofInt 255).toInt = if x < 0 then x + 256 else x := by
  have := rt_u8f ⟨(x + 128).toNat, by omega⟩
  have e : (((x + 128).toNat : Nat) : Int) - 128 = x := by omega
  simp only [e] at this
  exact this
theorem c9_byteAt (d : Nat) {m : ab_Ob} {T : Int → Int} {n : Int} (hl : rt_l m) (e1 : (m.2 16).2 = T) (e2 : m.1 18 = n) (hT : ∀ q : Int, -128 ≤ T q ∧ T q ≤ 127) {k : Int} (hk : 0 ≤ k) : ab_Ct (d + 1) 0 0 mX9_byteAt [ab_O 0, ab_I k] [m] (ab_Is (rt_b T n k) [m]) := by
  obtain ⟨l1, l4, n0, n7⟩ := hl
  refine ab_ct kX9_byteAt rfl rfl (fun x hx => vX9_byteAt_0 hx k m 0 0 ⟨fun g => ab_lf rfl ?_, fun g => ⟨by omega, ab_lf rfl ?_⟩⟩)
  · unfold rt_b
    rw [if_pos (by omega)]
  · unfold rt_b
    rw [if_neg (by omega), e1, rt_u8 (hT k)]
theorem rt_b_sp {T : Int → Int} {n k : Int} (hT : ∀ q : Int, -128 ≤ T q ∧ T q ≤ 127) : rt_b T n k = 32 ↔ k < n ∧ lx_sp (T k) = true := by
  have := hT k
  unfold rt_b
  rw [lx_sp_iff]
  repeat' split
  all_goals omega
theorem rt_b_le {T : Int → Int} {n k : Int} (hT : ∀ q : Int, -128 ≤ T q ∧ T q ≤ 127) : (97 ≤ rt_b T n k ∧ rt_b T n k ≤ 122) ↔ k < n ∧ lx_le (T k) = true := by
  have := hT k
  unfold rt_b
  rw [lx_le_iff]
  repeat' split
  all_goals omega
theorem rt_b_di {T : Int → Int} {n k : Int} (hT : ∀ q : Int, -128 ≤ T q ∧ T q ≤ 127) : (48 ≤ rt_b T n k ∧ rt_b T n k ≤ 57) ↔ k < n ∧ lx_di (T k) = true := by
  have := hT k
  unfold rt_b
  rw [lx_di_iff]
  repeat' split
  all_goals omega
theorem rt_b_eq {T : Int → Int} {n k : Int} (h1 : k < n) (h2 : 0 ≤ T k) : rt_b T n k = T k := by
  unfold rt_b
  rw [if_neg (by omega), if_neg (by omega)]
theorem c9_nextWord (d : Nat) {m : ab_Ob} {T : Int → Int} {n : Int} (hl : rt_l m) (e1 : (m.2 16).2 = T) (e2 : m.1 18 = n) (hT : ∀ q : Int, -128 ≤ T q ∧ T q ≤ 127) (h : 0 ≤ m.1 21 ∧ m.1 21 = m.1 19 ∧ m.1 19 ≤ n) : ab_Ct (d + 2) 0 0 mX9_nextWord [ab_O 0] [m] (ab_V1 (fun v => rt_f m v ∧ v.1 21 = m.1 21 ∧ v.1 23 = m.1 23 ∧ v.1 19 = lx_sk T lx_le n (m.1 21) ∧ (v.1 20 = if lx_sk T lx_le n (m.1 21) - m.1 21 ≤ 6 then 2 else 0) ∧ (lx_sk T lx_le n (m.1 21) - m.1 21 ≤ 6 → v.1 24 = pd (fun t => T (m.1 21 + t)) (lx_sk T lx_le n (m.1 21) - m.1 21).toNat))) := by
  have n7 := hl.2.2
  refine ab_ct kX9_nextWord rfl rfl (fun x hx => vX9_nextWord_0 hx m 0 0 ?_)
  have key : ∀ (q : Nat) (u : ab_Ob), u.1 19 + q = n → m.1 21 ≤ u.1 19 → (∀ f, f ≠ 19 → f ≠ 24 → u.1 f = m.1 f) → u.2 = m.2 → lx_sk T lx_le n (u.1 19) = lx_sk T lx_le n (m.1 21) → (∀ z : Int, m.1 21 ≤ z → z < u.1 19 → lx_le (T z) = true) → (u.1 19 - m.1 21 ≤ 6 → u.1 24 = pd (fun t => T (m.1 21 + t)) (u.1 19 - m.1 21).toNat) → ab_J x 5 [some (ab_O 0)] [] [u] 0 0 := by
    intro q
    have fin : ∀ (u : ab_Ob), m.1 21 ≤ u.1 19 → u.1 19 ≤ n → (∀ f, f ≠ 19 → f ≠ 24 → u.1 f = m.1 f) → u.2 = m.2 → lx_sk T lx_le n (m.1 21) = u.1 19 → (u.1 19 - m.1 21 ≤ 6 → u.1 24 = pd (fun t => T (m.1 21 + t)) (u.1 19 - m.1 21).toNat) → ∀ z : Int, z = (if u.1 19 - m.1 21 ≤ 6 then 2 else 0) → (((none : Option ab_V) = none ∧ ab_shw [true] [m] [ab_pf u 20 z]) ∧ ((none : Option ab_V) = none ∧ ∃ v, [ab_pf u 20 z] = [v] ∧ (rt_f m v ∧ v.1 21 = m.1 21 ∧ v.1 23 = m.1 23 ∧ v.1 19 = lx_sk T lx_le n (m.1 21) ∧ (v.1 20 = if lx_sk T lx_le n (m.1 21) - m.1 21 ≤ 6 then 2 else 0) ∧ (lx_sk T lx_le n (m.1 21) - m.1 21 ≤ 6 → v.1 24 = pd (fun t => T (m.1 21 + t)) (lx_sk T lx_le n (m.1 21) - m.1 21).toNat)))) := fun u a1 a2 u1 u2 eE hw z hz => by
      refine ab_lv1 ⟨⟨fun f f19 f20 f21 f22 f23 f24 => by rw [hd_pf_ne f20]; exact u1 f f19 f24, u2⟩, ?_, ?_, ?_, ?_, fun g => ?_⟩
      · show u.1 21 = _
        exact u1 21 (by decide) (by decide)
      · show u.1 23 = _
        exact u1 23 (by decide) (by decide)
      · show u.1 19 = _
        exact eE.symm
      · rw [hd_pf_eq, eE]; exact hz
      · rw [eE] at g ⊢
        exact hw g
    induction q with
    | zero =>
      intro u hq h8 u1 u2 hE hle hw
      have e21 := u1 21 (by decide) (by decide)
      have e18 := u1 18 (by decide) (by decide)
      have eE : lx_sk T lx_le n (m.1 21) = u.1 19 := by rw [← hE]; exact lx_sk_e (by omega)
      have cb := c9_byteAt d (m := u) (T := T) (n := n) (k := u.1 19) ⟨by rw [u2]; exact hl.1, by rw [u2]; exact hl.2.1, by omega, by omega⟩ (by rw [u2]; exact e1) (by omega) hT (by omega)
      refine vX9_nextWord_5 hx u 0 0 (ab_x1 cb (ab_xb (c9_in d _ 97 122) (fun p => absurd (rt_b_le hT |>.mp p).1 (by omega)) (fun p => ⟨fun _ => ⟨by omega, fun g => fin u h8 (by omega) u1 u2 eE hw _ (by rw [if_pos (by omega)]), fun g => fin u h8 (by omega) u1 u2 eE hw _ (by rw [if_neg (by omega)])⟩, fun g => absurd rfl g⟩)))
    | succ q ih =>
      intro u hq h8 u1 u2 hE hle hw
      push_cast at hq
      have e21 := u1 21 (by decide) (by decide)
      have e18 := u1 18 (by decide) (by decide)
      have cb := c9_byteAt d (m := u) (T := T) (n := n) (k := u.1 19) ⟨by rw [u2]; exact hl.1, by rw [u2]; exact hl.2.1, by omega, by omega⟩ (by rw [u2]; exact e1) (by omega) hT (by omega)
      refine vX9_nextWord_5 hx u 0 0 (ab_x1 cb (ab_xb (c9_in d _ 97 122) (fun p => ⟨fun g => absurd g (by decide), fun _ => ⟨by omega, fun g => ⟨by omega, ?_⟩, fun g => ab_x1 cb ⟨by omega, ?_⟩⟩⟩) (fun p => ⟨fun _ => ?_, fun g => absurd rfl g⟩)))
      · obtain ⟨q1, q2⟩ := (rt_b_le hT).mp p
        refine ih _ (by show u.1 19 + 1 + (q : Int) = _; omega) (by show _ ≤ u.1 19 + 1; omega) (fun f f19 f24 => by rw [hd_pf_ne f19]; exact u1 f f19 f24) u2 ?_ (fun z z1 z2 => ?_) (fun y => ?_)
        · rw [hd_pf_eq, ← lx_sk_y q1 q2]; exact hE
        · rw [hd_pf_eq] at z2
          by_cases e : z = u.1 19
          · rw [e]; exact q2
          · exact hle z z1 (by omega)
        · rw [hd_pf_eq] at y
          omega
      · obtain ⟨q1, q2⟩ := (rt_b_le hT).mp p
        have tl := lx_le_iff.mp q2
        have hw' := hw (by omega)
        have pb := pd_b (D := fun t => T (m.1 21 + t)) (k := (u.1 19 - m.1 21).toNat) (fun t ht => by
          have := lx_le_iff.mp (hle (m.1 21 + t) (by omega) (by omega))
          omega)
        have p5 := pk_p5 ⟨(u.1 19 - m.1 21).toNat, by omega⟩
        dsimp only at p5
        rw [rt_b_eq q1 (by omega), hw', pk_st (by omega) (by omega)]
        refine ih _ (by show u.1 19 + 1 + (q : Int) = _; omega) (by show _ ≤ u.1 19 + 1; omega) (fun f f19 f24 => by rw [hd_pf_ne f19, hd_pf_ne f24]; exact u1 f f19 f24) u2 ?_ (fun z z1 z2 => ?_) (fun y => ?_)
        · rw [hd_pf_eq, ← lx_sk_y q1 q2]; exact hE
        · rw [hd_pf_eq] at z2
          by_cases e : z = u.1 19
          · rw [e]; exact q2
          · exact hle z z1 (by omega)
        · rw [hd_pf_eq, show (u.1 19 + 1 - m.1 21).toNat = (u.1 19 - m.1 21).toNat + 1 by omega]
          simp only [pd]
          rw [show m.1 21 + (((u.1 19 - m.1 21).toNat : Nat) : Int) = u.1 19 by omega]
          rfl
      · have p' : ¬ lx_le (T (u.1 19)) = true := fun y => p ((rt_b_le hT).mpr ⟨by omega, y⟩)
        have eE : lx_sk T lx_le n (m.1 21) = u.1 19 := by rw [← hE]; exact lx_sk_n p'
        exact ⟨by omega, fun g => fin u h8 (by omega) u1 u2 eE hw _ (by rw [if_pos (by omega)]), fun g => fin u h8 (by omega) u1 u2 eE hw _ (by rw [if_neg (by omega)])⟩
  exact key (n - m.1 19).toNat (ab_pf m 24 0) (by show m.1 19 + _ = _; omega) (by show m.1 21 ≤ m.1 19; omega) (fun f _ f24 => hd_pf_ne f24) rfl (by show lx_sk T lx_le n (m.1 19) = _; rw [h.2.1]) (fun z z1 z2 => by have : (ab_pf m 24 0).1 19 = m.1 19 := rfl; omega) (fun _ => by
    have : (ab_pf m 24 0).1 19 = m.1 19 := rfl
    rw [this, show (m.1 19 - m.1 21).toNat = 0 by omega]
    rfl)
theorem c9_nextWhole (d : Nat) {m : ab_Ob} {T : Int → Int} {n : Int} (hl : rt_l m) (e1 : (m.2 16).2 = T) (e2 : m.1 18 = n) (hT : ∀ q : Int, -128 ≤ T q ∧ T q ≤ 127) (h : 0 ≤ m.1 21 ∧ m.1 21 = m.1 19 ∧ m.1 19 ≤ n) : ab_Ct (d + 2) 0 0 mX9_nextWhole [ab_O 0] [m] (ab_V1 (fun v => rt_f m v ∧ v.1 21 = m.1 21 ∧ v.1 23 = m.1 23 ∧ v.1 19 = lx_sk T lx_di n (m.1 21) ∧ (v.1 20 = if lx_sk T lx_di n (m.1 21) - m.1 21 ≤ 2 then 3 else 0) ∧ (1 = v.1 19 - m.1 21 → v.1 22 = T (m.1 21) - 48) ∧ (2 = v.1 19 - m.1 21 → v.1 22 = (T (m.1 21) - 48) * 10 + (T (m.1 21 + 1) - 48)))) := by
  have n7 := hl.2.2
  refine ab_ct kX9_nextWhole rfl rfl (fun x hx => vX9_nextWhole_0 hx m 0 0 ?_)
  have key : ∀ (q : Nat) (u : ab_Ob), u.1 19 + q = n → m.1 21 ≤ u.1 19 → (∀ f, f ≠ 19 → f ≠ 22 → u.1 f = m.1 f) → u.2 = m.2 → lx_sk T lx_di n (u.1 19) = lx_sk T lx_di n (m.1 21) → (0 = u.1 19 - m.1 21 → u.1 22 = 0) → (1 = u.1 19 - m.1 21 → u.1 22 = T (m.1 21) - 48) → (2 = u.1 19 - m.1 21 → u.1 22 = (T (m.1 21) - 48) * 10 + (T (m.1 21 + 1) - 48)) → ab_J x 5 [some (ab_O 0)] [] [u] 0 0 := by
    intro q
    have fin : ∀ (u : ab_Ob), (∀ f, f ≠ 19 → f ≠ 22 → u.1 f = m.1 f) → u.2 = m.2 → lx_sk T lx_di n (m.1 21) = u.1 19 → (1 = u.1 19 - m.1 21 → u.1 22 = T (m.1 21) - 48) → (2 = u.1 19 - m.1 21 → u.1 22 = (T (m.1 21) - 48) * 10 + (T (m.1 21 + 1) - 48)) → ∀ z : Int, z = (if u.1 19 - m.1 21 ≤ 2 then 3 else 0) → (((none : Option ab_V) = none ∧ ab_shw [true] [m] [ab_pf u 20 z]) ∧ ((none : Option ab_V) = none ∧ ∃ v, [ab_pf u 20 z] = [v] ∧ (rt_f m v ∧ v.1 21 = m.1 21 ∧ v.1 23 = m.1 23 ∧ v.1 19 = lx_sk T lx_di n (m.1 21) ∧ (v.1 20 = if lx_sk T lx_di n (m.1 21) - m.1 21 ≤ 2 then 3 else 0) ∧ (1 = v.1 19 - m.1 21 → v.1 22 = T (m.1 21) - 48) ∧ (2 = v.1 19 - m.1 21 → v.1 22 = (T (m.1 21) - 48) * 10 + (T (m.1 21 + 1) - 48))))) := fun u u1 u2 eE g1 g2 z hz => by
      refine ab_lv1 ⟨⟨fun f f19 f20 f21 f22 f23 f24 => by rw [hd_pf_ne f20]; exact u1 f f19 f22, u2⟩, ?_, ?_, ?_, ?_, g1, g2⟩
      · show u.1 21 = _
        exact u1 21 (by decide) (by decide)
      · show u.1 23 = _
        exact u1 23 (by decide) (by decide)
      · show u.1 19 = _
        exact eE.symm
      · rw [hd_pf_eq, eE]; exact hz
    induction q with
    | zero =>
      intro u hq h8 u1 u2 hE g0 g1 g2
      have e21 := u1 21 (by decide) (by decide)
      have e18 := u1 18 (by decide) (by decide)
      have eE : lx_sk T lx_di n (m.1 21) = u.1 19 := by rw [← hE]; exact lx_sk_e (by omega)
      have cb := c9_byteAt d (m := u) (T := T) (n := n) (k := u.1 19) ⟨by rw [u2]; exact hl.1, by rw [u2]; exact hl.2.1, by omega, by omega⟩ (by rw [u2]; exact e1) (by omega) hT (by omega)
      refine vX9_nextWhole_5 hx u 0 0 (ab_x1 cb (ab_xb (c9_in d _ 48 57) (fun p => absurd (rt_b_di hT |>.mp p).1 (by omega)) (fun p => ⟨fun _ => ⟨by omega, fun g => fin u u1 u2 eE g1 g2 _ (by rw [if_pos (by omega)]), fun g => fin u u1 u2 eE g1 g2 _ (by rw [if_neg (by omega)])⟩, fun g => absurd rfl g⟩)))
    | succ q ih =>
      intro u hq h8 u1 u2 hE g0 g1 g2
      push_cast at hq
      have e21 := u1 21 (by decide) (by decide)
      have e18 := u1 18 (by decide) (by decide)
      have cb := c9_byteAt d (m := u) (T := T) (n := n) (k := u.1 19) ⟨by rw [u2]; exact hl.1, by rw [u2]; exact hl.2.1, by omega, by omega⟩ (by rw [u2]; exact e1) (by omega) hT (by omega)
      have t0 := hT (m.1 21)
      refine vX9_nextWhole_5 hx u 0 0 (ab_x1 cb (ab_xb (c9_in d _ 48 57) (fun p => ⟨fun g => absurd g (by decide), fun _ => ⟨by omega, fun g => ⟨by omega, ?_⟩, fun g => ?_⟩⟩) (fun p => ⟨fun _ => ?_, fun g => absurd rfl g⟩)))
      · obtain ⟨q1, q2⟩ := (rt_b_di hT).mp p
        refine ih _ (by show u.1 19 + 1 + (q : Int) = _; omega) (by show _ ≤ u.1 19 + 1; omega) (fun f f19 f22 => by rw [hd_pf_ne f19]; exact u1 f f19 f22) u2 ?_ (fun y => ?_) (fun y => ?_) (fun y => ?_)
        · rw [hd_pf_eq, ← lx_sk_y q1 q2]; exact hE
        · rw [hd_pf_eq] at y; omega
        · rw [hd_pf_eq] at y; omega
        · rw [hd_pf_eq] at y; omega
      · obtain ⟨q1, q2⟩ := (rt_b_di hT).mp p
        have td := lx_di_iff.mp q2
        have nb : -100000 ≤ u.1 22 ∧ u.1 22 ≤ 100000 := by
          by_cases e : 0 = u.1 19 - m.1 21
          · have := g0 e; omega
          · have := g1 (by omega); omega
        refine ⟨by omega, ab_x1 cb ?_⟩
        rw [rt_b_eq q1 (by omega)]
        refine ⟨by omega, by omega, by omega, ih _ (by show u.1 19 + 1 + (q : Int) = _; omega) (by show _ ≤ u.1 19 + 1; omega) (fun f f19 f22 => by rw [hd_pf_ne f19, hd_pf_ne f22]; exact u1 f f19 f22) u2 ?_ (fun y => ?_) (fun y => ?_) (fun y => ?_)⟩
        · rw [hd_pf_eq, ← lx_sk_y q1 q2]; exact hE
        · rw [hd_pf_eq] at y; omega
        · rw [hd_pf_eq] at y
          show 10 * u.1 22 + T (u.1 19) - 48 = _
          have z0 := g0 (by omega)
          have e : u.1 19 = m.1 21 := by omega
          rw [z0, e]
          omega
        · rw [hd_pf_eq] at y
          show 10 * u.1 22 + T (u.1 19) - 48 = _
          have z0 := g1 (by omega)
          have e : u.1 19 = m.1 21 + 1 := by omega
          rw [z0, e]
          omega
      · have p' : ¬ lx_di (T (u.1 19)) = true := fun y => p ((rt_b_di hT).mpr ⟨by omega, y⟩)
        have eE : lx_sk T lx_di n (m.1 21) = u.1 19 := by rw [← hE]; exact lx_sk_n p'
        exact ⟨by omega, fun g => fin u u1 u2 eE g1 g2 _ (by rw [if_pos (by omega)]), fun g => fin u u1 u2 eE g1 g2 _ (by rw [if_neg (by omega)])⟩
  exact key (n - m.1 19).toNat (ab_pf m 22 0) (by show m.1 19 + _ = _; omega) (by show m.1 21 ≤ m.1 19; omega) (fun f _ f22 => hd_pf_ne f22) rfl (by show lx_sk T lx_di n (m.1 19) = _; rw [h.2.1]) (fun _ => rfl) (fun y => by have : (ab_pf m 22 0).1 19 = m.1 19 := rfl; omega) (fun y => by have : (ab_pf m 22 0).1 19 = m.1 19 := rfl; omega)
