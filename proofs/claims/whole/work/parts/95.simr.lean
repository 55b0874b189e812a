/-! rows and acts -/
theorem rc_pt {n : Int} {e : Int × Int × Int} {X X' : Int → Int} {k : Int} (h : X' k = X k) : rc n e X' k = rc n e X k := by
  unfold rc
  repeat' split
  all_goals (first | (unfold ab_ui; split <;> first | rfl | exact h) | (dsimp only; rw [h]))
theorem nb_rl {n : Int} {X X' : Int → Int} (h : ∀ k, rl n k → X' k = X k) (hn : nb n X) : nb n X' := by
  obtain ⟨h1, h2, h3⟩ := hn
  refine ⟨by rw [h 54 (Or.inr (Or.inr (by omega)))]; exact h1, fun k k0 k1 => ?_, fun r r0 r1 => ?_⟩
  · rw [h k (Or.inl ⟨k0, k1⟩), h (24 + k) (Or.inr (Or.inl (by omega)))]
    exact h2 k k0 k1
  · rw [h (48 + r) (Or.inr (Or.inr (by omega)))]
    exact h3 r r0 r1
theorem md_x_rl {b : ab_Ob} {X X' : Int → Int} (h : ∀ k, rl (b.1 3) k → X' k = X k) (hx : md_x b X) : md_x b X' := by
  obtain ⟨h1, h2, h3⟩ := hx
  refine ⟨by rw [h 54 (Or.inr (Or.inr (by omega)))]; exact h1, fun k k0 k1 => ?_, fun r r0 r1 => ?_⟩
  · rw [h k (Or.inl ⟨k0, k1⟩), h (24 + k) (Or.inr (Or.inl (by omega)))]
    exact h2 k k0 k1
  · rw [h (48 + r) (Or.inr (Or.inr (by omega)))]
    exact h3 r r0 r1
theorem md_x_eq {b : ab_Ob} {X Y : Int → Int} (h1 : md_x b X) (h2 : md_x b Y) : ∀ k, rl (b.1 3) k → X k = Y k := fun k hk => by
  rcases hk with ⟨a, c⟩ | ⟨a, c⟩ | ⟨a, c⟩
  · rw [(h1.2.1 k a c).1, (h2.2.1 k a c).1]
  · have e : k = 24 + (k - 24) := by omega
    rw [e, (h1.2.1 (k - 24) (by omega) (by omega)).2, (h2.2.1 (k - 24) (by omega) (by omega)).2]
  · by_cases y : k = 54
    · rw [y, h1.1, h2.1]
    · have e : k = 48 + (k - 48) := by omega
      rw [e, h1.2.2 (k - 48) (by omega) (by omega), h2.2.2 (k - 48) (by omega) (by omega)]
theorem nb_of {b : ab_Ob} {X : Int → Int} (hb : sc_ok b) (hx : md_x b X) : nb (b.1 3) X := by
  obtain ⟨_, h2, h3, h4, h5, h6, h7⟩ := hb
  obtain ⟨x1, x2, x3⟩ := hx
  refine ⟨by rw [x1]; exact h5, fun k k0 k1 => ?_, fun r r0 r1 => ?_⟩
  · rw [(x2 k k0 k1).1, (x2 k k0 k1).2]
    exact h6 k k0 k1
  · rw [x3 r r0 r1]
    exact h7 r r0 r1
theorem ah_congr {n : Int} : ∀ {R : List (Int × Int × Int)} {rows rows' : Nat → Int → Int} {X X' : Int → Int}, (∀ t, t < R.length → ∀ k, rl n k → rows' t k = rows t k) → (∀ k, rl n k → X' k = X k) → ah n rows R X → ah n rows' R X'
  | [], _, _, _, _, _, _, _ => trivial
  | e :: R, rows, rows', X, X', h1, h2, h => by
    obtain ⟨a1, a2, a3, a4⟩ := h
    have hl := h1 R.length (by simp)
    exact ⟨a1, nb_rl hl a2, fun k hk => by rw [hl k hk, a3 k hk, rc_pt (h2 k hk)], ah_congr (fun t ht => h1 t (by simp; omega)) hl a4⟩
theorem ah_drop {n : Int} {rows : Nat → Int → Int} {e0 : Int × Int × Int} : ∀ {R : List (Int × Int × Int)} {X : Int → Int}, ah n rows (R ++ [e0]) X → ah n (fun t => rows (t + 1)) R X
  | [], _, _ => trivial
  | e :: R, X, h => by
    have h' : ah n rows (e :: (R ++ [e0])) X := h
    obtain ⟨a1, a2, a3, a4⟩ := h'
    have hl : (R ++ [e0]).length = R.length + 1 := by simp
    rw [hl] at a2 a3 a4
    exact ⟨a1, a2, a3, ah_drop a4⟩
theorem rl_b {n k : Int} (hn : n ≤ 24) (h : rl n k) : 0 ≤ k ∧ k < 55 := by
  unfold rl at h
  omega
/-- one more act -/
theorem ah_push {n : Int} {m z : ab_Ob} (hn : n ≤ 24) {L : List (Int × Int × Int)} (h9 : m.1 9 = L.length) (h10 : L.length ≤ 10) (hp : re_p m z) (ha : ah n (hrow m) L.reverse (m.2 3).2) {e : Int × Int × Int} (he : ev n e) (hnb : nb n (m.2 3).2) {Y : Int → Int} (hY : ∀ k, rl n k → (m.2 3).2 k = rc n e Y k) : z.1 9 = (ac_push L e).length ∧ ah n (hrow z) (ac_push L e).reverse Y := by
  obtain ⟨p1, p2, p3⟩ := hp
  by_cases l : L.length = 10
  · have s1 : re_s m = 1 := if_pos (by omega)
    rw [s1] at p1 p2 p3
    have ep : ac_push L e = L.tail ++ [e] := by unfold ac_push; rw [if_pos l]
    obtain ⟨e0, L1, hL⟩ : ∃ e0 L1, L = e0 :: L1 := by
      cases L with
      | nil => simp at l
      | cons a t => exact ⟨a, t, rfl⟩
    subst hL
    have l1 : L1.length = 9 := by simp at l; omega
    have tl : (e0 :: L1).tail = L1 := rfl
    rw [ep, tl]
    rw [List.reverse_cons] at ha
    have a1 := ah_drop ha
    rw [List.reverse_append]
    show z.1 9 = ((L1 ++ [e]).length : Nat) ∧ ah n (hrow z) (e :: L1.reverse) Y
    have lr : L1.reverse.length = 9 := by rw [List.length_reverse]; exact l1
    have row : ∀ k, rl n k → hrow z 9 k = (m.2 3).2 k := fun k hk => by
      have kb := rl_b hn hk
      have := p2 k kb.1 kb.2
      rw [show 55 * (m.1 9 - 1) + k = 55 * ((9 : Nat) : Int) + k by push_cast; omega] at this
      exact this
    have old : ∀ t, t < L1.reverse.length → ∀ k, rl n k → hrow z t k = (fun t => hrow m (t + 1)) t k := fun t ht k hk => by
      have kb := rl_b hn hk
      have := p3 (55 * (t : Int) + k) (by omega) (by omega)
      show (z.2 5).2 (55 * (t : Int) + k) = (m.2 5).2 (55 * ((t + 1 : Nat) : Int) + k)
      rw [this, show 55 * (t : Int) + k + 55 * 1 = 55 * ((t + 1 : Nat) : Int) + k by push_cast; omega]
    refine ⟨by rw [List.length_append, l1, p1]; push_cast; simp; omega, he, ?_, ?_, ?_⟩
    · rw [lr]; exact nb_rl row hnb
    · rw [lr]; exact fun k hk => by rw [row k hk, hY k hk]
    · rw [lr]; exact ah_congr old row a1
  · have s0 : re_s m = 0 := if_neg (by omega)
    rw [s0] at p1 p2 p3
    have ep : ac_push L e = L ++ [e] := by unfold ac_push; rw [if_neg l]
    rw [ep, List.reverse_append]
    show z.1 9 = ((L ++ [e]).length : Nat) ∧ ah n (hrow z) (e :: L.reverse) Y
    have lr : L.reverse.length = L.length := List.length_reverse
    have row : ∀ k, rl n k → hrow z L.length k = (m.2 3).2 k := fun k hk => by
      have kb := rl_b hn hk
      have := p2 k kb.1 kb.2
      rw [show 55 * (m.1 9 - 0) + k = 55 * ((L.length : Nat) : Int) + k by omega] at this
      exact this
    have old : ∀ t, t < L.reverse.length → ∀ k, rl n k → hrow z t k = hrow m t k := fun t ht k hk => by
      have kb := rl_b hn hk
      have := p3 (55 * (t : Int) + k) (by omega) (by omega)
      show (z.2 5).2 (55 * (t : Int) + k) = (m.2 5).2 (55 * (t : Int) + k)
      rw [this, show 55 * (t : Int) + k + 55 * 0 = 55 * (t : Int) + k by omega]
    refine ⟨by rw [List.length_append, p1]; simp; omega, he, ?_, ?_, ?_⟩
    · rw [lr]; exact nb_rl row hnb
    · rw [lr]; exact fun k hk => by rw [row k hk, hY k hk]
    · rw [lr]; exact ah_congr old row ha
