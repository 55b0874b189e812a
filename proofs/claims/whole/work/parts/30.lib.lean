/-! small mathematics over ranges of whole numbers -/
def hd_sm (f : Int → Int) (i : Int) : Nat → Int
  | 0 => 0
  | m + 1 => hd_sm f i m + f (i + m)
/-- the least of f over i .. i + m -/
def hd_mn (f : Int → Int) (i : Int) : Nat → Int
  | 0 => f i
  | m + 1 => if f (i + (m + 1 : Nat)) < hd_mn f i m then f (i + (m + 1 : Nat)) else hd_mn f i m
/-- the first place of the least -/
def hd_am (f : Int → Int) (i : Int) : Nat → Int
  | 0 => i
  | m + 1 => if f (i + (m + 1 : Nat)) < f (hd_am f i m) then i + (m + 1 : Nat) else hd_am f i m
theorem hd_sm_congr {f g : Int → Int} {i : Int} {m : Nat} (h : ∀ k : Int, i ≤ k → k < i + m → f k = g k) : hd_sm f i m = hd_sm g i m := by
  induction m with
  | zero => rfl
  | succ m ih =>
    simp only [hd_sm]
    rw [ih (fun k h1 h2 => h k h1 (by omega)), h (i + m) (by omega) (by omega)]
theorem hd_mn_congr {f g : Int → Int} {i : Int} {m : Nat} (h : ∀ k : Int, i ≤ k → k ≤ i + m → f k = g k) : hd_mn f i m = hd_mn g i m := by
  induction m with
  | zero => exact h i (by omega) (by omega)
  | succ m ih =>
    simp only [hd_mn]
    rw [ih (fun k h1 h2 => h k h1 (by omega)), h (i + (m + 1 : Nat)) (by omega) (by omega)]
theorem hd_mn_le {f : Int → Int} {i : Int} {m : Nat} {k : Int} (h1 : i ≤ k) (h2 : k ≤ i + m) : hd_mn f i m ≤ f k := by
  induction m with
  | zero => have : k = i := by omega
            subst this; exact Int.le_refl _
  | succ m ih =>
    simp only [hd_mn]
    by_cases hk : k = i + (m + 1 : Nat)
    · subst hk
      split <;> omega
    · have := ih (by omega)
      split <;> omega
theorem hd_mn_ex (f : Int → Int) (i : Int) (m : Nat) : ∃ k : Int, i ≤ k ∧ k ≤ i + m ∧ hd_mn f i m = f k := by
  induction m with
  | zero => exact ⟨i, by omega, by omega, rfl⟩
  | succ m ih =>
    obtain ⟨k, h1, h2, h3⟩ := ih
    simp only [hd_mn]
    split
    · exact ⟨_, by omega, by omega, rfl⟩
    · exact ⟨k, h1, by omega, h3⟩
/-- a number is the least: it is met, and none is less -/
theorem hd_mn_eq {f : Int → Int} {i : Int} {m : Nat} {v : Int} (h1 : ∀ k : Int, i ≤ k → k ≤ i + m → v ≤ f k) (h2 : ∃ k : Int, i ≤ k ∧ k ≤ i + m ∧ v = f k) : hd_mn f i m = v := by
  obtain ⟨k, a, b, c⟩ := h2
  obtain ⟨k', a', b', c'⟩ := hd_mn_ex f i m
  have := hd_mn_le (f := f) a b
  have := h1 k' a' b'
  omega
theorem hd_am_in (f : Int → Int) (i : Int) (m : Nat) : i ≤ hd_am f i m ∧ hd_am f i m ≤ i + m := by
  induction m with
  | zero => simp [hd_am]
  | succ m ih =>
    simp only [hd_am]
    split <;> omega
theorem hd_am_val (f : Int → Int) (i : Int) (m : Nat) : f (hd_am f i m) = hd_mn f i m := by
  induction m with
  | zero => rfl
  | succ m ih =>
    simp only [hd_am, hd_mn]
    rw [ih]
    split
    · rfl
    · exact ih
theorem hd_am_first {f : Int → Int} {i : Int} {m : Nat} {k : Int} (h1 : i ≤ k) (h2 : k < hd_am f i m) : hd_mn f i m < f k := by
  induction m with
  | zero => simp only [hd_am] at h2; omega
  | succ m ih =>
    simp only [hd_am] at h2
    simp only [hd_mn]
    rw [hd_am_val f] at h2
    split
    · rename_i hc
      rw [if_pos hc] at h2
      have := hd_mn_le (f := f) (i := i) (m := m) h1 (by omega)
      omega
    · rename_i hc
      rw [if_neg hc] at h2
      exact ih h2
/-- the first place of the least is the one with these two marks -/
theorem hd_am_eq {f : Int → Int} {i : Int} {m : Nat} {k : Int} (h1 : i ≤ k) (h2 : k ≤ i + m) (h3 : f k = hd_mn f i m) (h4 : ∀ q : Int, i ≤ q → q < k → hd_mn f i m < f q) : hd_am f i m = k := by
  obtain ⟨a, b⟩ := hd_am_in f i m
  have hv := hd_am_val f i m
  rcases Int.lt_trichotomy (hd_am f i m) k with h | h | h
  · have := h4 _ a h; omega
  · exact h
  · have := hd_am_first h1 h; omega
theorem hd_am_congr {f g : Int → Int} {i : Int} {m : Nat} (h : ∀ k : Int, i ≤ k → k ≤ i + m → f k = g k) : hd_am f i m = hd_am g i m := by
  obtain ⟨a, b⟩ := hd_am_in g i m
  refine hd_am_eq a b ?_ fun q h1 h2 => ?_
  · rw [h _ a b, hd_am_val g, hd_mn_congr h]
  · rw [h q h1 (by omega), hd_mn_congr h]
    exact hd_am_first h1 h2
theorem hd_ui_eq (f : Int → Int) (i z : Int) : ab_ui f i z i = z := by simp [ab_ui]
theorem hd_ui_ne {f : Int → Int} {i j z : Int} (h : j ≠ i) : ab_ui f i z j = f j := by simp [ab_ui, h]
/-! objects: reading behind a write -/
theorem hd_pf_eq (w : ab_Ob) (k : Nat) (z : Int) : (ab_pf w k z).1 k = z := by simp [ab_pf, ab_up]
theorem hd_pf_ne {w : ab_Ob} {k j : Nat} {z : Int} (h : j ≠ k) : (ab_pf w k z).1 j = w.1 j := by simp [ab_pf, ab_up, h]
theorem hd_pf_2 (w : ab_Ob) (k : Nat) (z : Int) : (ab_pf w k z).2 = w.2 := rfl
theorem hd_pa_1 (w : ab_Ob) (k : Nat) (i z : Int) : (ab_pa w k i z).1 = w.1 := rfl
theorem hd_pa_eq (w : ab_Ob) (k : Nat) (i z : Int) : (ab_pa w k i z).2 k = ((w.2 k).1, ab_ui (w.2 k).2 i z) := by simp [ab_pa, ab_ua]
theorem hd_pa_ne {w : ab_Ob} {k j : Nat} {i z : Int} (h : j ≠ k) : (ab_pa w k i z).2 j = w.2 j := by simp [ab_pa, ab_ua, h]
theorem hd_pa_len (w : ab_Ob) (k j : Nat) (i z : Int) : ((ab_pa w k i z).2 j).1 = (w.2 j).1 := by
  by_cases h : j = k
  · subst h; rw [hd_pa_eq]
  · rw [hd_pa_ne h]
theorem hd_pn_1 (w : ab_Ob) (k : Nat) (n : Int) : (ab_pn w k n).1 = w.1 := rfl
theorem hd_pn_eq (w : ab_Ob) (k : Nat) (n : Int) : (ab_pn w k n).2 k = (n, fun _ => 0) := by simp [ab_pn, ab_ua]
theorem hd_pn_ne {w : ab_Ob} {k j : Nat} {n : Int} (h : j ≠ k) : (ab_pn w k n).2 j = w.2 j := by simp [ab_pn, ab_ua, h]
/-! ends of walks -/
abbrev ab_Is (R : Int) (W : List ab_Ob) : Option ab_V → List ab_Ob → Prop := fun rv w => rv = some (ab_I R) ∧ w = W
theorem ab_shw_self : ∀ {bs : List Bool} {ws : List ab_Ob}, bs.length = ws.length → ab_shw bs ws ws
  | [], [], _ => rfl
  | true :: bs, o :: os, h => ⟨o, os, rfl, ab_shw_self (by simpa using h)⟩
  | false :: bs, o :: os, h => ⟨os, rfl, ab_shw_self (by simpa using h)⟩
  | [], _ :: _, h => by simp at h
  | _ :: _, [], h => by simp at h
theorem ab_lf {bs : List Bool} {ws : List ab_Ob} {z R : Int} (hl : Nat.beq bs.length ws.length = true) (h : z = R) : ((∃ r : Int, some (ab_I z) = some (ab_I r)) ∧ ab_shw bs ws ws) ∧ (some (ab_I z) = some (ab_I R) ∧ ws = ws) :=
  ⟨⟨⟨z, rfl⟩, ab_shw_self (ab_beq hl)⟩, by rw [h], rfl⟩
theorem ab_lfl {bs : List Bool} {ws : List ab_Ob} {z R : Int} (hl : Nat.beq bs.length ws.length = true) (h : z = R) : ((∃ r : Int, some (ab_L z) = some (ab_L r)) ∧ ab_shw bs ws ws) ∧ (some (ab_L z) = some (ab_L R) ∧ ws = ws) :=
  ⟨⟨⟨z, rfl⟩, ab_shw_self (ab_beq hl)⟩, by rw [h], rfl⟩
theorem ab_i01 : ((0 : Int) = 0 ∨ (0 : Int) = 1) := Or.inl rfl
theorem ab_i11 : ((1 : Int) = 0 ∨ (1 : Int) = 1) := Or.inr rfl
/-- an answer yes or no -/
abbrev ab_Bo (P : Prop) (W : List ab_Ob) : Option ab_V → List ab_Ob → Prop := fun rv w => w = W ∧ ((rv = some (ab_I 1) ∧ P) ∨ (rv = some (ab_I 0) ∧ ¬ P))
theorem ab_xb {d mc ms : Nat} {M : ab_M} {as : List ab_V} {ws W : List ab_Ob} {P : Prop} {K : Int → Prop} (h : ab_Ct d mc ms M as ws (ab_Bo P W)) (k1 : P → K 1) (k0 : ¬ P → K 0) : ∃ Q : Option ab_V → List ab_Ob → Prop, ab_Ct d mc ms M as ws Q ∧ ∀ r : Int, Q (some (ab_I r)) W → K r :=
  ⟨_, h, fun r hr => by
    rcases hr.2 with ⟨e, hp⟩ | ⟨e, hp⟩
    · cases e; exact k1 hp
    · cases e; exact k0 hp⟩
theorem ab_l1b {bs : List Bool} {ws : List ab_Ob} {P : Prop} (hl : Nat.beq bs.length ws.length = true) (h : P) : ((∃ r : Int, some (ab_I 1) = some (ab_I r)) ∧ ab_shw bs ws ws) ∧ (ws = ws ∧ ((some (ab_I 1) = some (ab_I 1) ∧ P) ∨ (some (ab_I 1) = some (ab_I 0) ∧ ¬ P))) :=
  ⟨⟨⟨1, rfl⟩, ab_shw_self (ab_beq hl)⟩, rfl, Or.inl ⟨rfl, h⟩⟩
theorem ab_l0b {bs : List Bool} {ws : List ab_Ob} {P : Prop} (hl : Nat.beq bs.length ws.length = true) (h : ¬ P) : ((∃ r : Int, some (ab_I 0) = some (ab_I r)) ∧ ab_shw bs ws ws) ∧ (ws = ws ∧ ((some (ab_I 0) = some (ab_I 1) ∧ P) ∨ (some (ab_I 0) = some (ab_I 0) ∧ ¬ P))) :=
  ⟨⟨⟨0, rfl⟩, ab_shw_self (ab_beq hl)⟩, rfl, Or.inr ⟨rfl, h⟩⟩
/-- a world of one object, changed, no answer -/
abbrev ab_V1 (P : ab_Ob → Prop) : Option ab_V → List ab_Ob → Prop := fun rv w => rv = none ∧ ∃ v, w = [v] ∧ P v
theorem ab_lv1 {w v : ab_Ob} {P : ab_Ob → Prop} (h : P v) : ((none : Option ab_V) = none ∧ ab_shw [true] [w] [v]) ∧ ((none : Option ab_V) = none ∧ ∃ u, [v] = [u] ∧ P u) := ⟨⟨rfl, v, [], rfl, rfl⟩, rfl, v, rfl, h⟩
theorem ab_xv1 {d mc ms : Nat} {M : ab_M} {as : List ab_V} {ws : List ab_Ob} {P : ab_Ob → Prop} {K : ab_Ob → Prop} (h : ab_Ct d mc ms M as ws (ab_V1 P)) (k : ∀ v, P v → K v) : ∃ Q : Option ab_V → List ab_Ob → Prop, ab_Ct d mc ms M as ws Q ∧ ∀ v : ab_Ob, Q none [v] → K v :=
  ⟨_, h, fun v hv => by
    obtain ⟨_, u, hu, hp⟩ := hv
    cases hu
    exact k v hp⟩
