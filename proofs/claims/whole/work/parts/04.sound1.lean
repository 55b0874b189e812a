/-! SOUNDNESS of the abstract machine, first part: small facts -/
theorem ab_at_eq {α : Type} (l : List α) (i : Nat) : ab_at l i = l[i]? := by
  induction l generalizing i with
  | nil => simp [ab_at]
  | cons x l ih => cases i with
    | zero => simp [ab_at]
    | succ i => simp [ab_at, ih]
theorem ab_set_eq {α : Type} (l : List α) (i : Nat) (y : α) : ab_set l i y = l.set i y := by
  induction l generalizing i with
  | nil => simp [ab_set]
  | cons x l ih => cases i with
    | zero => simp [ab_set]
    | succ i => simp [ab_set, ih]
theorem ab_set_len {α : Type} (l : List α) (i : Nat) (y : α) : (ab_set l i y).length = l.length := by rw [ab_set_eq]; simp
theorem ab_at_set_eq {α : Type} {l : List α} {i : Nat} {y : α} (h : i < l.length) : ab_at (ab_set l i y) i = some y := by
  rw [ab_at_eq, ab_set_eq]; simp [h]
theorem ab_at_set_ne {α : Type} {l : List α} {i j : Nat} {y : α} (h : i ≠ j) : ab_at (ab_set l i y) j = ab_at l j := by
  rw [ab_at_eq, ab_set_eq, ab_at_eq]; simp [h]
theorem ab_at_lt {α : Type} {l : List α} {i : Nat} {y : α} (h : ab_at l i = some y) : i < l.length := by
  rw [ab_at_eq] at h; exact (List.getElem?_eq_some_iff.mp h).1
theorem ab_at_mem {α : Type} {l : List α} {i : Nat} {y : α} (h : ab_at l i = some y) : y ∈ l := by
  rw [ab_at_eq] at h; exact List.mem_of_getElem? h
theorem ab_frc_eq {α : Type} (l : List α) (k : List α → Prop) : ab_frc l k = k l := by
  induction l generalizing k with
  | nil => rfl
  | cons x l ih => simp only [ab_frc, ih]
/-- the locals as the kit has them -/
def ab_lc (ad : Nat → Nat → Nat) (ak : Nat → Nat) : Nat → List (Option ab_V) → List (Nat × Value)
  | _, [] => []
  | i, none :: l => ab_lc ad ak (i + 1) l
  | i, some v :: l => (i, ab_cv ad ak v) :: ab_lc ad ak (i + 1) l
theorem ab_lc_mem {ad : Nat → Nat → Nat} {ak : Nat → Nat} {lv : List (Option ab_V)} {n : Nat} {q : Nat × Value} : q ∈ ab_lc ad ak n lv ↔ ∃ (j : Nat) (v : ab_V), ab_at lv j = some (some v) ∧ q = (n + j, ab_cv ad ak v) := by
  induction lv generalizing n with
  | nil => simp [ab_lc, ab_at]
  | cons w l ih =>
    cases w with
    | none =>
      simp only [ab_lc, ih]
      constructor
      · rintro ⟨j, v, h1, h2⟩
        exact ⟨j + 1, v, h1, by rw [h2]; congr 1; omega⟩
      · rintro ⟨j, v, h1, h2⟩
        cases j with
        | zero => simp [ab_at] at h1
        | succ j => exact ⟨j, v, h1, by rw [h2]; congr 1; omega⟩
    | some u =>
      simp only [ab_lc, List.mem_cons, ih]
      constructor
      · rintro (h | ⟨j, v, h1, h2⟩)
        · exact ⟨0, u, rfl, h⟩
        · exact ⟨j + 1, v, h1, by rw [h2]; congr 1; omega⟩
      · rintro ⟨j, v, h1, h2⟩
        cases j with
        | zero =>
          simp only [ab_at, Option.some.injEq] at h1
          subst h1
          exact Or.inl h2
        | succ j => exact Or.inr ⟨j, v, h1, by rw [h2]; congr 1; omega⟩
theorem ab_lc_at {ad : Nat → Nat → Nat} {ak : Nat → Nat} {lv : List (Option ab_V)} {ls : Array Slot} {nL i : Nat} {v : ab_V} (h : lv_has ls nL (ab_lc ad ak 0 lv)) (hi : ab_at lv i = some (some v)) : ls[i]? = some (.val (ab_cv ad ak v)) := by
  have := h.2.2 (i, ab_cv ad ak v) (ab_lc_mem.mpr ⟨i, v, hi, by simp⟩)
  exact this
theorem ab_cv_cat (ad : Nat → Nat → Nat) (ak : Nat → Nat) (v : ab_V) : (ab_cv ad ak v).category = ab_cat v := by
  rcases v with z | z | o | q | n <;> rfl
theorem ab_kill_at {lv : List (Option ab_V)} {i j : Nat} {v : ab_V} (h : ab_at (ab_kill lv i) j = some (some v)) : ab_at lv j = some (some v) ∧ ¬ (j + 1 = i ∧ ab_cat v = 2) := by
  cases i with
  | zero => exact ⟨h, by omega⟩
  | succ i =>
    simp only [ab_kill] at h
    cases hw : ab_at lv i with
    | none =>
      rw [hw] at h
      refine ⟨h, fun ⟨h1, _⟩ => ?_⟩
      have : j = i := by omega
      subst this
      rw [hw] at h; cases h
    | some w =>
      rw [hw] at h
      dsimp only at h
      cases hb : ab_isL w with
      | true =>
        rw [hb] at h
        dsimp only at h
        by_cases hij : i = j
        · subst hij
          rw [ab_at_set_eq (ab_at_lt hw)] at h; cases h
        · rw [ab_at_set_ne hij] at h
          exact ⟨h, fun ⟨h1, _⟩ => hij (by omega)⟩
      | false =>
        rw [hb] at h
        dsimp only at h
        refine ⟨h, fun ⟨h1, h2⟩ => ?_⟩
        have : j = i := by omega
        subst this
        rw [hw] at h
        cases h
        rcases v with z | z | o | q | n
        · cases h2
        · cases hb
        · cases h2
        · cases h2
        · cases h2
theorem ab_kill_len (lv : List (Option ab_V)) (i : Nat) : (ab_kill lv i).length = lv.length := by
  cases i with
  | zero => rfl
  | succ i =>
    simp only [ab_kill]
    split
    · split
      · rw [ab_set_len]
      · rfl
    · rfl
theorem ab_s1_len (lv : List (Option ab_V)) (i : Nat) (v : ab_V) : (ab_s1 lv i v).length = lv.length := by
  unfold ab_s1; rw [ab_set_len, ab_kill_len]
theorem ab_s2_len (lv : List (Option ab_V)) (i : Nat) (v : ab_V) : (ab_s2 lv i v).length = lv.length := by
  unfold ab_s2; rw [ab_set_len, ab_set_len, ab_kill_len]
theorem ab_s1_at {lv : List (Option ab_V)} {i j : Nat} {v w : ab_V} (h : ab_at (ab_s1 lv i v) j = some (some w)) : (j = i ∧ w = v) ∨ (j ≠ i ∧ ab_at lv j = some (some w) ∧ ¬ (j + 1 = i ∧ ab_cat w = 2)) := by
  unfold ab_s1 at h
  by_cases hij : i = j
  · subst hij
    have hl : i < (ab_set (ab_kill lv i) i (some v)).length := ab_at_lt h
    rw [ab_set_len] at hl
    rw [ab_at_set_eq hl] at h
    cases h
    exact Or.inl ⟨rfl, rfl⟩
  · rw [ab_at_set_ne hij] at h
    have := ab_kill_at h
    exact Or.inr ⟨fun e => hij e.symm, this.1, this.2⟩
theorem ab_s2_at {lv : List (Option ab_V)} {i j : Nat} {v w : ab_V} (h : ab_at (ab_s2 lv i v) j = some (some w)) : (j = i ∧ w = v) ∨ (j ≠ i ∧ j ≠ i + 1 ∧ ab_at lv j = some (some w) ∧ ¬ (j + 1 = i ∧ ab_cat w = 2)) := by
  unfold ab_s2 at h
  by_cases hij : i = j
  · subst hij
    have hl : i < (ab_set (ab_set (ab_kill lv i) (i + 1) none) i (some v)).length := ab_at_lt h
    rw [ab_set_len] at hl
    rw [ab_at_set_eq hl] at h
    cases h
    exact Or.inl ⟨rfl, rfl⟩
  · rw [ab_at_set_ne hij] at h
    by_cases hij2 : i + 1 = j
    · subst hij2
      have hl := ab_at_lt h
      rw [ab_set_len] at hl
      rw [ab_at_set_eq hl] at h
      cases h
    · rw [ab_at_set_ne hij2] at h
      have := ab_kill_at h
      exact Or.inr ⟨fun e => hij e.symm, fun e => hij2 e.symm, this.1, this.2⟩
theorem ab_mem_at {α : Type} {l : List α} {y : α} (h : y ∈ l) : ∃ i, ab_at l i = some y := by
  obtain ⟨i, hi⟩ := List.getElem?_of_mem h
  exact ⟨i, by rw [ab_at_eq]; exact hi⟩
theorem ab_s1_ok {lv : List (Option ab_V)} {i : Nat} {v : ab_V} (h : ∀ w, some w ∈ lv → ab_okv w) (hv : ab_okv v) : ∀ w, some w ∈ ab_s1 lv i v → ab_okv w := by
  intro w hw
  obtain ⟨j, hj⟩ := ab_mem_at hw
  rcases ab_s1_at hj with ⟨_, rfl⟩ | ⟨_, h2, _⟩
  · exact hv
  · exact h w (ab_at_mem h2)
theorem ab_s2_ok {lv : List (Option ab_V)} {i : Nat} {v : ab_V} (h : ∀ w, some w ∈ lv → ab_okv w) (hv : ab_okv v) : ∀ w, some w ∈ ab_s2 lv i v → ab_okv w := by
  intro w hw
  obtain ⟨j, hj⟩ := ab_mem_at hw
  rcases ab_s2_at hj with ⟨_, rfl⟩ | ⟨_, _, h2, _⟩
  · exact hv
  · exact h w (ab_at_mem h2)
/-- fewer locals are known -/
theorem ab_lc_le {ad : Nat → Nat → Nat} {ak : Nat → Nat} {lv : List (Option ab_V)} {ls : Array Slot} {nL : Nat} {l : List (Nat × Value)} (h : lv_has ls nL l) (hs : ∀ j v, ab_at lv j = some (some v) → (j, ab_cv ad ak v) ∈ l) : lv_has ls nL (ab_lc ad ak 0 lv) := by
  refine ⟨h.1, h.2.1, fun q hq => ?_⟩
  obtain ⟨j, v, h1, h2⟩ := ab_lc_mem.mp hq
  rw [h2]
  simp only [Nat.zero_add]
  exact h.2.2 _ (hs j v h1)
theorem ab_lc_s1 {ad : Nat → Nat → Nat} {ak : Nat → Nat} {lv : List (Option ab_V)} {ls : Array Slot} {nL i : Nat} {v : ab_V} (h : lv_has ls nL ((i, ab_cv ad ak v) :: (ab_lc ad ak 0 lv).filter (fun q => !(q.1 == i) && !(q.1 + 1 == i && q.2.category == 2)))) : lv_has ls nL (ab_lc ad ak 0 (ab_s1 lv i v)) := by
  refine ab_lc_le h fun j w hj => ?_
  rcases ab_s1_at hj with ⟨rfl, rfl⟩ | ⟨h1, h2, h3⟩
  · exact List.mem_cons_self
  · refine List.mem_cons_of_mem _ (List.mem_filter.mpr ⟨ab_lc_mem.mpr ⟨j, w, h2, by simp⟩, ?_⟩)
    simp only [ab_cv_cat]
    simp
    exact ⟨h1, by by_cases e : j + 1 = i; exact Or.inr (fun c => h3 ⟨e, c⟩); exact Or.inl e⟩
theorem ab_lc_s2 {ad : Nat → Nat → Nat} {ak : Nat → Nat} {lv : List (Option ab_V)} {ls : Array Slot} {nL i : Nat} {v : ab_V} (h : lv_has ls nL ((i, ab_cv ad ak v) :: (ab_lc ad ak 0 lv).filter (fun q => !(q.1 == i) && (!(q.1 == i + 1) && !(q.1 + 1 == i && q.2.category == 2))))) : lv_has ls nL (ab_lc ad ak 0 (ab_s2 lv i v)) := by
  refine ab_lc_le h fun j w hj => ?_
  rcases ab_s2_at hj with ⟨rfl, rfl⟩ | ⟨h1, h1b, h2, h3⟩
  · exact List.mem_cons_self
  · refine List.mem_cons_of_mem _ (List.mem_filter.mpr ⟨ab_lc_mem.mpr ⟨j, w, h2, by simp⟩, ?_⟩)
    simp only [ab_cv_cat]
    simp
    exact ⟨h1, h1b, by by_cases e : j + 1 = i; exact Or.inr (fun c => h3 ⟨e, c⟩); exact Or.inl e⟩
theorem ab_mask_at {bs : List Bool} {lv : List (Option ab_V)} {j : Nat} {v : ab_V} (h : ab_at (ab_mask bs lv) j = some (some v)) : ab_at lv j = some (some v) := by
  induction bs generalizing lv j with
  | nil => cases lv <;> simpa [ab_mask] using h
  | cons b bs ih =>
    cases lv with
    | nil => cases b <;> simpa [ab_mask] using h
    | cons w l =>
      cases b with
      | true =>
        simp only [ab_mask] at h
        cases j with
        | zero => exact h
        | succ j => exact ih (lv := l) (j := j) h
      | false =>
        simp only [ab_mask] at h
        cases j with
        | zero => simp [ab_at] at h
        | succ j => exact ih (lv := l) (j := j) h
theorem ab_mask_len (bs : List Bool) (lv : List (Option ab_V)) : (ab_mask bs lv).length = lv.length := by
  induction bs generalizing lv with
  | nil => cases lv <;> rfl
  | cons b bs ih =>
    cases lv with
    | nil => cases b <;> rfl
    | cons w l => cases b <;> simp [ab_mask, ih]
/-! numbers -/
theorem ab_t32 {z : Int} (h : ab_okk 0 z) : (Int32.ofInt z).toInt = z := Int32.toInt_ofInt_of_le (by have := h.1; omega) (by have := h.2; omega)
theorem ab_t64 {z : Int} (h : ab_okk 2 z) : (Int64.ofInt z).toInt = z := Int64.toInt_ofInt_of_le (by have := h.1; omega) (by have := h.2; omega)
theorem ab_eq32 {x y : Int} (hx : ab_okk 0 x) (hy : ab_okk 0 y) : Int32.ofInt x = Int32.ofInt y ↔ x = y := by
  rw [← Int32.toInt_inj, ab_t32 hx, ab_t32 hy]
theorem ab_lt32 {x y : Int} (hx : ab_okk 0 x) (hy : ab_okk 0 y) : Int32.ofInt x < Int32.ofInt y ↔ x < y := by
  rw [Int32.lt_iff_toInt_lt, ab_t32 hx, ab_t32 hy]
theorem ab_le32 {x y : Int} (hx : ab_okk 0 x) (hy : ab_okk 0 y) : Int32.ofInt x ≤ Int32.ofInt y ↔ x ≤ y := by
  rw [Int32.le_iff_toInt_le, ab_t32 hx, ab_t32 hy]
theorem ab_ok0 : ab_okk 0 0 := ⟨by omega, by omega⟩
theorem ab_of0 : Int32.ofInt 0 = 0 := by decide
theorem ab_okT (v : Int32) : ab_okk 0 v.toInt := ⟨by have := v.le_toInt; omega, by have := v.toInt_lt; omega⟩
theorem ab_okT64 (v : Int64) : ab_okk 2 v.toInt := ⟨by have := v.le_toInt; omega, by have := v.toInt_lt; omega⟩
theorem ab_in32 {i n : Int} (hi : ab_okk 0 i) (h0 : 0 ≤ i) (hn : i < n) : ¬ (Int32.ofInt i < 0 ∨ n.toNat ≤ (Int32.ofInt i).toNatClampNeg) := by
  have e : (Int32.ofInt i).toNatClampNeg = i.toNat := by
    show (Int32.ofInt i).toInt.toNat = i.toNat
    rw [ab_t32 hi]
  rw [e, ← ab_of0, ab_lt32 hi ab_ok0]
  omega
theorem ab_cl32 {i : Int} (hi : ab_okk 0 i) : (Int32.ofInt i).toNatClampNeg = i.toNat := by
  show (Int32.ofInt i).toInt.toNat = i.toNat
  rw [ab_t32 hi]
