/-! SOUNDNESS, eighth part: calls -/
theorem ab_alW_ok {bs : List Bool} {os : List ab_Ob} {k : List ab_Ob → Prop} (h : ab_alW bs os k) {l : List ab_Ob} (hl : ab_shw bs os l) : k l := by
  induction bs generalizing os k l with
  | nil => cases os with
    | nil => cases hl; exact h
    | cons o os => exact h.elim
  | cons b bs ih =>
    cases os with
    | nil => cases b <;> exact h.elim
    | cons o os =>
      cases b with
      | true =>
        obtain ⟨y, l', rfl, hl⟩ := hl
        exact ih (os := os) (k := fun l => k (y :: l)) (h y) hl
      | false =>
        obtain ⟨l', rfl, hl⟩ := hl
        exact ih (os := os) (k := fun l => k (o :: l)) h hl
theorem ab_alR_ok {rt : Option FieldType} {p : Nat} {k : Option ab_V → Prop} (h : ab_alR rt p k) {rv : Option ab_V} (hr : ab_shr rt p rv) : k rv := by
  unfold ab_alR at h
  unfold ab_shr at hr
  split at h
  · subst hr; exact h
  · obtain ⟨r, rfl⟩ := hr; exact h r
  · subst hr; exact h
  · rename_i ty p' h1 h2
    split at hr
    · rename_i he; cases he
    · rename_i he; cases he; exact absurd rfl h1
    · rename_i he; cases he; exact absurd rfl (h2 _)
    · obtain ⟨r, rfl⟩ := hr; exact h r
theorem ab_exA_ok {kc ks mc ms : Nat} {b : Bool} {k : Nat → Nat → Prop} (h : ab_exA kc ks mc ms b k) : ∃ mc' ms', (kc ≤ mc ∧ ks ≤ ms → kc + mc' ≤ mc ∧ ks + ms' ≤ ms) ∧ k mc' ms' := by
  cases b with
  | false => exact ⟨0, 0, fun h => h, h⟩
  | true =>
    obtain ⟨mc', ms', h1, h2⟩ := h
    exact ⟨mc', ms', fun _ => h1, h2⟩
theorem ab_sub_at {α : Type} {l : List α} {pl : List Nat} {r : List α} (h : ab_sub l pl = some r) : r.length = pl.length ∧ ∀ q y, ab_at r q = some y → ∃ p, ab_at pl q = some p ∧ ab_at l p = some y := by
  induction pl generalizing r with
  | nil =>
    simp only [ab_sub, Option.some.injEq] at h
    subst h
    exact ⟨rfl, fun q y hy => by simp [ab_at] at hy⟩
  | cons p ps ih =>
    simp only [ab_sub] at h
    split at h
    · rename_i x r' h1 h2
      cases h
      obtain ⟨i1, i2⟩ := ih h2
      refine ⟨by simp [i1], fun q y hy => ?_⟩
      cases q with
      | zero =>
        simp only [ab_at, Option.some.injEq] at hy
        subst hy
        exact ⟨p, rfl, h1⟩
      | succ q => exact i2 q y hy
    · cases h
theorem ab_eqs_eq {a b : List Nat} (h : ab_eqs a b = true) : a = b := by
  induction a generalizing b with
  | nil => cases b with
    | nil => rfl
    | cons y b => cases h
  | cons x a ih => cases b with
    | nil => cases h
    | cons y b =>
      simp only [ab_eqs, Bool.and_eq_true] at h
      rw [ab_beq h.1, ih h.2]
theorem ab_hasn_of {x : Nat} {l : List Nat} {i : Nat} (h : ab_at l i = some x) : ab_hasn x l = true := by
  induction l generalizing i with
  | nil => simp [ab_at] at h
  | cons y l ih =>
    cases i with
    | zero =>
      simp only [ab_at, Option.some.injEq] at h
      subst h
      simp [ab_hasn]
    | succ i => simp only [ab_hasn, ih h, Bool.or_true]
theorem ab_nd_inj {l : List Nat} (h : ab_nd l = true) {i j x : Nat} (hi : ab_at l i = some x) (hj : ab_at l j = some x) : i = j := by
  induction l generalizing i j with
  | nil => simp [ab_at] at hi
  | cons y l ih =>
    simp only [ab_nd, Bool.and_eq_true, Bool.not_eq_true'] at h
    cases i with
    | zero =>
      cases j with
      | zero => rfl
      | succ j =>
        simp only [ab_at, Option.some.injEq] at hi
        subst hi
        rw [ab_hasn_of (l := l) (i := j) hj] at h
        exact absurd h.1 (by decide)
    | succ i =>
      cases j with
      | zero =>
        simp only [ab_at, Option.some.injEq] at hj
        subst hj
        rw [ab_hasn_of (l := l) (i := i) hi] at h
        exact absurd h.1 (by decide)
      | succ j => rw [ih h.2 hi hj]
theorem ab_ix_at {o : Nat} {l : List Nat} {q : Nat} (h : ab_ix o l = some q) : ab_at l q = some o := by
  induction l generalizing q with
  | nil => cases h
  | cons y l ih =>
    simp only [ab_ix] at h
    split at h
    · rename_i hb
      cases h
      rw [ab_beq hb]; rfl
    · cases hx : ab_ix o l with
      | none => rw [hx] at h; cases h
      | some r =>
        rw [hx] at h
        cases h
        exact ih hx
theorem ab_ix_none {o : Nat} {l : List Nat} (h : ab_ix o l = none) {q : Nat} : ab_at l q ≠ some o := by
  induction l generalizing q with
  | nil => simp [ab_at]
  | cons y l ih =>
    simp only [ab_ix] at h
    split at h
    · cases h
    · rename_i hb
      cases hx : ab_ix o l with
      | some r => rw [hx] at h; cases h
      | none =>
        cases q with
        | zero =>
          intro he
          simp only [ab_at, Option.some.injEq] at he
          subst he
          simp at hb
        | succ q => exact ih hx
theorem ab_ix_of {l : List Nat} (h : ab_nd l = true) {q o : Nat} (hq : ab_at l q = some o) : ab_ix o l = some q := by
  cases hx : ab_ix o l with
  | none => exact absurd hq (ab_ix_none hx)
  | some r => rw [ab_nd_inj h (ab_ix_at hx) hq]
theorem ab_ck1_at {pl : List Nat} {q p : Nat} {l : List Nat} (h : ab_ck1 pl q p l = true) {f k : Nat} (hf : l.getD f 0 = k + 7) : ab_at pl (q + k) = some (p + k) := by
  induction l generalizing f with
  | nil => simp at hf
  | cons kd l ih =>
    simp only [ab_ck1, Bool.and_eq_true] at h
    cases f with
    | zero =>
      simp only [List.getD_cons_zero] at hf
      subst hf
      have h1 := h.1
      dsimp only at h1
      split at h1
      · rename_i p' hp'
        rw [hp', ab_beq h1]
      · cases h1
    | succ f => exact ih h.2 (by simpa using hf)
theorem ab_ck2_at {pl : List Nat} {q0 : Nat} {ps cs : List Nat} (h : ab_ck2 pl q0 ps cs = true) {i p c : Nat} (hp : ab_at ps i = some p) (hc : ab_at cs i = some c) {f k : Nat} (hf : ab_kd c f = k + 7) : ab_at pl (q0 + i + k) = some (p + k) := by
  induction ps generalizing q0 cs i with
  | nil => simp [ab_at] at hp
  | cons y ps ih =>
    cases cs with
    | nil => simp [ab_at] at hc
    | cons d cs =>
      simp only [ab_ck2, Bool.and_eq_true] at h
      cases i with
      | zero =>
        simp only [ab_at, Option.some.injEq] at hp hc
        subst hp; subst hc
        exact ab_ck1_at h.1 hf
      | succ i =>
        have := ih h.2 (i := i) hp hc
        rw [← this]; congr 1; omega
theorem ab_put_len {α : Type} {l : List α} {pl : List Nat} {xs : List α} : (ab_put l pl xs).length = l.length := by
  induction pl generalizing l xs with
  | nil => cases xs <;> rfl
  | cons p ps ih => cases xs with
    | nil => rfl
    | cons x xs => simp only [ab_put]; rw [ih, ab_set_len]
theorem ab_put_out {α : Type} {l : List α} {pl : List Nat} {xs : List α} {o : Nat} (h : ∀ q, ab_at pl q ≠ some o) : ab_at (ab_put l pl xs) o = ab_at l o := by
  induction pl generalizing l xs with
  | nil => cases xs <;> rfl
  | cons p ps ih => cases xs with
    | nil => rfl
    | cons x xs =>
      simp only [ab_put]
      rw [ih (fun q => h (q + 1)), ab_at_set_ne (fun e => h 0 (by rw [e]; rfl))]
theorem ab_put_in {α : Type} {l : List α} {pl : List Nat} {xs : List α} (hn : ab_nd pl = true) {q o : Nat} {y : α} (hq : ab_at pl q = some o) (hx : xs.length = pl.length) (h : ab_at (ab_put l pl xs) o = some y) : ab_at xs q = some y := by
  induction pl generalizing l xs q with
  | nil => simp [ab_at] at hq
  | cons p ps ih => cases xs with
    | nil => simp at hx
    | cons x xs =>
      simp only [ab_put] at h
      simp only [ab_nd, Bool.and_eq_true, Bool.not_eq_true'] at hn
      cases q with
      | zero =>
        simp only [ab_at, Option.some.injEq] at hq
        subst hq
        rw [ab_put_out (fun q hq => by rw [ab_hasn_of hq] at hn; exact absurd hn.1 (by decide))] at h
        rw [ab_at_set_eq (by have := ab_at_lt h; rw [ab_set_len] at this; exact this)] at h
        exact h
      | succ q => exact ih (xs := xs) (q := q) hn.2 hq (by simpa using hx) h
theorem ab_ren_cv {pl : List Nat} {v w : ab_V} (h : ab_ren pl v = some w) {ad ad' : Nat → Nat → Nat} {ak : Nat → Nat} (ha : ∀ q o, ab_at pl q = some o → ad' q 0 = ad o 0) : ab_cv ad' ak w = ab_cv ad ak v ∧ (ab_okv v → ab_okv w) := by
  rcases v with z | z | o | q | n
  · cases h; exact ⟨rfl, fun h => h⟩
  · cases h; exact ⟨rfl, fun h => h⟩
  · simp only [ab_ren] at h
    cases hx : ab_ix o pl with
    | none => rw [hx] at h; cases h
    | some r =>
      rw [hx] at h
      cases h
      refine ⟨?_, fun _ => trivial⟩
      simp only [ab_cv]
      rw [ha r o (ab_ix_at hx)]
  · cases h
  · cases h; exact ⟨rfl, fun h => h⟩
theorem ab_rens_cv {pl : List Nat} {as as' : List ab_V} (h : ab_rens pl as = some as') {ad ad' : Nat → Nat → Nat} {ak : Nat → Nat} (ha : ∀ q o, ab_at pl q = some o → ad' q 0 = ad o 0) : as'.map (ab_cv ad' ak) = as.map (ab_cv ad ak) ∧ ((∀ v ∈ as, ab_okv v) → ∀ v ∈ as', ab_okv v) := by
  induction as generalizing as' with
  | nil => cases h; exact ⟨rfl, fun h => h⟩
  | cons v as ih =>
    simp only [ab_rens] at h
    split at h
    · rename_i w r h1 h2
      cases h
      obtain ⟨i1, i2⟩ := ih h2
      obtain ⟨j1, j2⟩ := ab_ren_cv (ak := ak) h1 ha
      refine ⟨by rw [List.map_cons, List.map_cons, i1, j1], fun hok u hu => ?_⟩
      rcases List.mem_cons.mp hu with rfl | hu
      · exact j2 (hok _ List.mem_cons_self)
      · exact i2 (fun v hv => hok v (List.mem_cons_of_mem _ hv)) u hu
    · cases h
/-- an object in another world, at another place -/
theorem ab_ob_move {E : ab_E} {ad ad' : Nat → Nat → Nat} {o o' ci : Nat} {ob : ab_Ob} {H : Heap} (h : ab_ob E ad o ci ob H) (h0 : ad' o' 0 = ad o 0) (hf : ∀ f, ab_arr (ab_kd ci f) → ad' o' (f + 1) = ad o (f + 1)) (hs : ∀ f k, ab_kd ci f = k + 7 → ad' (o' + k) 0 = ad (o + k) 0) : ab_ob E ad' o' ci ob H := by
  obtain ⟨q1, q2, q3⟩ := h
  refine ⟨?_, fun f ha => by rw [hf f ha]; exact q2 f ha, q3⟩
  rw [h0]
  refine q1.to fun j _ => ?_
  have hs' := hs j
  have hf' := hf j
  revert hs' hf'
  generalize ab_kd ci j = kd
  intro hs' hf'
  match kd, hs', hf' with
  | 0, _, _ => rfl
  | 1, _, _ => rfl
  | 2, _, _ => rfl
  | 3, _, hf' => simp [ab_fv, hf' ⟨by omega, by omega⟩]
  | 4, _, hf' => simp [ab_fv, hf' ⟨by omega, by omega⟩]
  | 5, _, hf' => simp [ab_fv, hf' ⟨by omega, by omega⟩]
  | 6, _, hf' => simp [ab_fv, hf' ⟨by omega, by omega⟩]
  | k + 7, hs', _ => simp [ab_fv, hs' k rfl]
theorem ab_W_lt {E : ab_E} {ad : Nat → Nat → Nat} {G : List Nat} {ws : List ab_Ob} {H : Heap} (h2 : ab_W E ad G ws H) {o f : Nat} (hs : ab_sl G o f) : ad o f < H.size := by
  have hlt : ∀ q cl, H[q]? = some cl → q < H.size := fun q cl h => (Array.getElem?_eq_some_iff.mp h).1
  match f, hs with
  | 0, ⟨c1, hc1⟩ =>
    have hl1 := ab_at_lt hc1
    rw [← h2.1] at hl1
    obtain ⟨b1, hb1⟩ : ∃ b1, ab_at ws o = some b1 := ⟨ws[o], by rw [ab_at_eq]; simp [hl1]⟩
    obtain ⟨⟨cl1, g1, _⟩, _⟩ := h2.2 o c1 b1 hc1 hb1
    exact hlt _ _ g1
  | g + 1, ⟨c1, hc1, hg⟩ =>
    have hl1 := ab_at_lt hc1
    rw [← h2.1] at hl1
    obtain ⟨b1, hb1⟩ : ∃ b1, ab_at ws o = some b1 := ⟨ws[o], by rw [ab_at_eq]; simp [hl1]⟩
    exact hlt _ _ ((h2.2 o c1 b1 hc1 hb1).2.1 g hg)
theorem ab_K_at {E : ab_E} {A B : Nat → Prop} {s U : State} {H : Heap} {locs : List Loc} (h : ab_K E A s s.heap) (hS : va_S A s.heap H locs) (hU : U.heap = H) (hW : s.WarmedH U.vm) (hB : ∀ q, B q → A q) : ab_K E B U U.heap := by
  obtain ⟨k1, k2, k3, k4, k5⟩ := h
  refine ⟨va_K.moved hW.alike k1, ?_, fun q hq => vk_R.warm hW (k3 q hq), ?_, ?_⟩
  · rw [hU]
    exact ((k2.kept hS.2.1).moved hW.alike).narrow hB
  · rw [hU]
    exact ((k4.kept hS.2.1).moved hW.alike).narrow hB
  · rw [hU]
    exact ((k5.kept hS.2.1).moved hW.alike).narrow hB
theorem ab_K_blind {E : ab_E} {A : Nat → Prop} {U U' : State} (h : ab_K E A U U.heap) (hh : U'.heap = U.heap) (hv : U'.vm = U.vm) : ab_K E A U' U'.heap := by
  obtain ⟨k1, k2, k3, k4, k5⟩ := h
  have ha : U.vm.Alike U'.vm := by rw [hv]; exact Vm.Alike.refl _
  exact ⟨va_K.moved ha k1, by rw [hh]; exact k2.moved ha, fun q hq => vk_R.same hv (k3 q hq), by rw [hh]; exact k4.moved ha, by rw [hh]; exact k5.moved ha⟩
