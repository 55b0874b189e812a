/-! Acts: the class -/
def ac_ok (a : ab_Ob) (L : List (Int × Int × Int)) : Prop := ((a.2 1).1 = 10 ∧ (a.2 2).1 = 10 ∧ (a.2 3).1 = 10) ∧ a.1 0 = L.length ∧ L.length ≤ 10 ∧ ∀ (t : Nat) e, L[t]? = some e → (a.2 1).2 t = e.1 ∧ (a.2 2).2 t = e.2.1 ∧ (a.2 3).2 t = e.2.2
def ac_push (L : List (Int × Int × Int)) (e : Int × Int × Int) : List (Int × Int × Int) := (if L.length = 10 then L.tail else L) ++ [e]
theorem ac_put {a : ab_Ob} {L : List (Int × Int × Int)} (h : ac_ok a L) (hl : L.length < 10) (k p o : Int) : ac_ok (ab_pf (ab_pa (ab_pa (ab_pa a 1 (a.1 0) k) 2 (a.1 0) p) 3 (a.1 0) o) 0 (a.1 0 + 1)) (L ++ [(k, p, o)]) := by
  obtain ⟨⟨n1, n2, n3⟩, h0, h1, he⟩ := h
  refine ⟨⟨?_, ?_, ?_⟩, ?_, ?_, fun t e ht => ?_⟩
  · rw [hd_pf_2, hd_pa_len, hd_pa_len, hd_pa_len]; exact n1
  · rw [hd_pf_2, hd_pa_len, hd_pa_len, hd_pa_len]; exact n2
  · rw [hd_pf_2, hd_pa_len, hd_pa_len, hd_pa_len]; exact n3
  · rw [hd_pf_eq, h0]; simp
  · simp; omega
  · by_cases hs : t < L.length
    · rw [List.getElem?_append_left hs] at ht
      have := he t e ht
      have ne : (t : Int) ≠ a.1 0 := by omega
      simp [ab_pf, ab_pa, ab_ua, ab_ui, ne]
      exact this
    · rw [List.getElem?_append_right (by omega)] at ht
      obtain ⟨wl, _⟩ := List.getElem?_eq_some_iff.mp ht
      simp at wl
      have es : t = L.length := by omega
      rw [es, Nat.sub_self] at ht
      simp only [List.getElem?_cons_zero, Option.some.injEq] at ht
      subst ht
      have eq : (t : Int) = a.1 0 := by omega
      rw [eq]
      simp [ab_pf, ab_pa, ab_ua, ab_ui]
theorem c_forgetFirst (d : Nat) (a : ab_Ob) {L : List (Int × Int × Int)} (h : ac_ok a L) (hl : L.length = 10) : ab_Ct (d + 1) 0 0 mX0_forgetFirst [ab_O 0] [a] (ab_V1 (fun v => ac_ok v L.tail)) := by
  obtain ⟨⟨n1, n2, n3⟩, h0, h1, he⟩ := h
  refine ab_ct kX0_forgetFirst rfl rfl (fun x hx => vX0_forgetFirst_0 hx a 0 0 ?_)
  have key : ∀ (q : Nat) (t : Int) (v : ab_Ob), t + q = 9 → 0 ≤ t → ((v.2 1).1 = 10 ∧ (v.2 2).1 = 10 ∧ (v.2 3).1 = 10) → (∀ z : Int, 0 ≤ z → z < t → (v.2 1).2 z = (a.2 1).2 (z + 1) ∧ (v.2 2).2 z = (a.2 2).2 (z + 1) ∧ (v.2 3).2 z = (a.2 3).2 (z + 1)) → (∀ z : Int, t ≤ z → (v.2 1).2 z = (a.2 1).2 z ∧ (v.2 2).2 z = (a.2 2).2 z ∧ (v.2 3).2 z = (a.2 3).2 z) → ab_J x 2 [some (ab_O 0), some (ab_I t)] [] [v] 0 0 := by
    intro q
    induction q with
    | zero =>
      intro t v ht t0 hn hlo hhi
      refine vX0_forgetFirst_2 hx _ v 0 0 ⟨by omega, fun _ => ab_lv1 ⟨hn, ?_, ?_, fun s e hs => ?_⟩, fun g => absurd (by omega) g⟩
      · rw [hd_pf_eq, List.length_tail, hl]; rfl
      · rw [List.length_tail]; omega
      · rw [List.getElem?_tail] at hs
        obtain ⟨wl, _⟩ := List.getElem?_eq_some_iff.mp hs
        have := he (s + 1) e hs
        have l := hlo s (by omega) (by omega)
        have ec : ((s + 1 : Nat) : Int) = (s : Int) + 1 := by push_cast; rfl
        rw [ec] at this
        rw [hd_pf_2, l.1, l.2.1, l.2.2]
        exact this
    | succ q ih =>
      intro t v ht t0 hn hlo hhi
      push_cast at ht
      have g1 := hhi (t + 1) (by omega)
      refine vX0_forgetFirst_2 hx _ v 0 0 ⟨by omega, fun g => absurd g (by omega), fun _ => ⟨by omega, by omega, by omega, by omega, by omega, by omega, by omega, by omega, by omega, by omega, ?_⟩⟩
      refine ih (t + 1) _ (by omega) (by omega) ?_ (fun z z0 z1 => ?_) (fun z z0 => ?_)
      · refine ⟨?_, ?_, ?_⟩
        · rw [hd_pa_len, hd_pa_len, hd_pa_len]; exact hn.1
        · rw [hd_pa_len, hd_pa_len, hd_pa_len]; exact hn.2.1
        · rw [hd_pa_len, hd_pa_len, hd_pa_len]; exact hn.2.2
      · by_cases e : z = t
        · subst e
          simp [ab_pa, ab_ua, ab_ui]
          exact g1
        · simp [ab_pa, ab_ua, ab_ui, e]
          exact hlo z z0 (by omega)
      · have e : z ≠ t := by omega
        simp [ab_pa, ab_ua, ab_ui, e]
        exact hhi z (by omega)
  exact key 9 0 a (by omega) (by omega) ⟨n1, n2, n3⟩ (fun z z0 z1 => absurd z1 (by omega)) (fun z z0 => ⟨rfl, rfl, rfl⟩)
theorem c_add (d : Nat) (a : ab_Ob) {L : List (Int × Int × Int)} (h : ac_ok a L) (k p o : Int) : ab_Ct (d + 2) 0 0 mX0_add [ab_O 0, ab_I k, ab_I p, ab_I o] [a] (ab_V1 (fun v => ac_ok v (ac_push L (k, p, o)))) := by
  have e0 := h.2.1
  have e1 := h.2.2.1
  obtain ⟨n1, n2, n3⟩ := h.1
  refine ab_ct kX0_add rfl rfl (fun x hx => vX0_add_0 hx k p o a 0 0 ⟨fun g => ⟨by omega, by omega, by omega, by omega, ab_lv1 ?_⟩, fun g => ab_xv1 (c_forgetFirst d a h (by omega)) (fun v hv => ?_)⟩)
  · unfold ac_push
    rw [if_neg (by omega)]
    exact ac_put h (by omega) k p o
  · have l : L.tail.length = 9 := by rw [List.length_tail]; omega
    have v0 := hv.2.1
    obtain ⟨m1, m2, m3⟩ := hv.1
    refine ⟨by omega, by omega, by omega, by omega, ab_lv1 ?_⟩
    unfold ac_push
    rw [if_pos (by omega)]
    exact ac_put hv (by omega) k p o
