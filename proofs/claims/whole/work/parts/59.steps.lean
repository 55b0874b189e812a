/-! Layer.stepsAsIn -/
/-- the pitch of the k-th of a level -/
def ly_p (b : ab_Ob) (L : List (Int × Int × Int × Int)) (k : Nat) : Int := match L[k]? with
  | some e => (b.2 4).2 e.2.2.1
  | none => 0
theorem ly_p_some {b : ab_Ob} {L : List (Int × Int × Int × Int)} {k : Nat} {e : Int × Int × Int × Int} (h : L[k]? = some e) : ly_p b L k = (b.2 4).2 e.2.2.1 := by
  unfold ly_p
  rw [h]
theorem c_stepFrom' (d : Nat) {v b : ab_Ob} {L : List (Int × Int × Int × Int)} (hv : ly_ok v L) (hb : sc_ok b) (hL : ∀ e ∈ L, 0 ≤ e.2.2.1 ∧ e.2.2.1 < b.1 3) (hl : L.length ≤ 24) {t : Nat} (ht : t + 1 < L.length) : ab_Ct (d + 1) 0 0 mX3_stepFrom [ab_O 0, ab_O 1, ab_I t] [v, b] (ab_Is (ly_p b L (t + 1) - ly_p b L t) [v, b]) := by
  have h1 := List.getElem?_eq_getElem (l := L) (i := t) (by omega)
  have h2 := List.getElem?_eq_getElem (l := L) (i := t + 1) ht
  rw [ly_p_some h1, ly_p_some h2]
  exact c_stepFrom d hv hb hL hl h1 h2
def ly_sa (b : ab_Ob) (L L' : List (Int × Int × Int × Int)) (f : Nat) : Prop := ∀ k : Nat, k + 1 < L.length → ly_p b L (k + 1) - ly_p b L k = ly_p b L' (f + k + 1) - ly_p b L' (f + k)
theorem c_stepsAsIn (d : Nat) {v b w : ab_Ob} {L L' : List (Int × Int × Int × Int)} (hv : ly_ok v L) (hw : ly_ok w L') (hb : sc_ok b) (hL : ∀ e ∈ L, 0 ≤ e.2.2.1 ∧ e.2.2.1 < b.1 3) (hL' : ∀ e ∈ L', 0 ≤ e.2.2.1 ∧ e.2.2.1 < b.1 3) (hl : L.length ≤ 24) (hl' : L'.length ≤ 24) {f : Nat} (hf : f + L.length ≤ L'.length) : ab_Ct (d + 2) 0 0 mX3_stepsAsIn [ab_O 0, ab_O 1, ab_O 2, ab_I f] [v, b, w] (ab_Bo (ly_sa b L L' f) [v, b, w]) := by
  refine ab_ct kX3_stepsAsIn rfl rfl (fun x hx => vX3_stepsAsIn_0 hx f v b w 0 0 ?_)
  have e0 := hv.2.1
  have key : ∀ (q m : Nat), m + q = L.length → (∀ k : Nat, k < m → k + 1 < L.length → ly_p b L (k + 1) - ly_p b L k = ly_p b L' (f + k + 1) - ly_p b L' (f + k)) → ab_J x 3 [some (ab_O 0), some (ab_O 1), some (ab_O 2), some (ab_I f), some (ab_I m)] [] [v, b, w] 0 0 := by
    intro q
    induction q with
    | zero =>
      intro m hm hall
      exact vX3_stepsAsIn_3 hx _ _ v b w 0 0 ⟨by omega, fun _ => ⟨ab_i11, ab_l1b rfl (fun k hk => hall k (by omega) hk)⟩, fun g => absurd (by omega) g⟩
    | succ q ih =>
      intro m hm hall
      by_cases hq : m + 1 < L.length
      · have efm : (f : Int) + (m : Int) = ((f + m : Nat) : Int) := by push_cast; rfl
        refine vX3_stepsAsIn_3 hx _ _ v b w 0 0 ⟨by omega, fun g => absurd g (by omega), fun _ => ab_x1 (c_stepFrom' d hv hb hL hl hq) ⟨by omega, ?_⟩⟩
        rw [efm]
        refine ab_x1 (c_stepFrom' d hw hb hL' hl' (t := f + m) (by omega)) ⟨fun g => ⟨by omega, ?_⟩, fun g => ⟨ab_i01, ab_l0b rfl (fun h => g (h m hq))⟩⟩
        have := ih (m + 1) (by omega) (fun k k1 k2 => by
          by_cases hk : k = m
          · subst hk; exact g
          · exact hall k (by omega) k2)
        exact this
      · exact vX3_stepsAsIn_3 hx _ _ v b w 0 0 ⟨by omega, fun _ => ⟨ab_i11, ab_l1b rfl (fun k hk => hall k (by omega) hk)⟩, fun g => absurd (by omega) g⟩
  exact key L.length 0 (by omega) (fun k k1 k2 => absurd k1 (by omega))
