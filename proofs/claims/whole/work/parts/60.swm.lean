/-! SWAY: what the best tree by one cost costs by another; mathematics -/
/-- a split and an under that fit a span and a head -/
def dp_fit (i j h s u : Int) : Prop := (i ≤ s ∧ s < j) ∧ (h ≤ s → s + 1 ≤ u ∧ u ≤ j) ∧ (¬ h ≤ s → i ≤ u ∧ u ≤ s)
theorem dp_I_le {c : Int → Int → Int → Int → Int} {T : Int → Int → Int → Int} {i j h s u : Int} (hf : dp_fit i j h s u) : dp_I c T i j h s ≤ dp_V c T i j h s u := by
  obtain ⟨⟨h1, h2⟩, h3, h4⟩ := hf
  unfold dp_I
  by_cases g : h ≤ s
  · rw [if_pos g]
    have := h3 g
    exact hd_mn_le (f := fun u => dp_V c T i j h s u) (by omega) (by omega)
  · rw [if_neg g]
    have := h4 g
    exact hd_mn_le (f := fun u => dp_V c T i j h s u) (by omega) (by omega)
theorem dp_le {c : Int → Int → Int → Int → Int} {i j h s u : Int} (h24 : j - i ≤ 24) (hf : dp_fit i j h s u) : dp_B c i j h ≤ dp_V c (dp_B c) i j h s u := by
  have h1 := dp_I_le (c := c) (T := dp_B c) hf
  obtain ⟨⟨a1, a2⟩, -⟩ := hf
  have h2 : dp_S c (dp_B c) i j h ≤ dp_I c (dp_B c) i j h s := hd_mn_le (f := fun s => dp_I c (dp_B c) i j h s) (by omega) (by omega)
  rw [dp_B_S (by omega) h24]
  omega
theorem dp_fit_own (c : Int → Int → Int → Int → Int) {i j h : Int} (hij : i < j) : dp_fit i j h (dp_sp c i j h) (dp_un c i j h) := ⟨dp_sp_in hij, (dp_un_in hij).1, (dp_un_in hij).2⟩
theorem dp_S_at (c : Int → Int → Int → Int → Int) (i j h : Int) : dp_S c (dp_B c) i j h = dp_I c (dp_B c) i j h (dp_sp c i j h) := (hd_am_val (fun s => dp_I c (dp_B c) i j h s) i (j - i - 1).toNat).symm
theorem dp_at {c : Int → Int → Int → Int → Int} {i j h : Int} (hij : i < j) (h24 : j - i ≤ 24) : dp_B c i j h = dp_V c (dp_B c) i j h (dp_sp c i j h) (dp_un c i j h) := by
  rw [dp_B_S hij h24, dp_S_at]
  unfold dp_I dp_un
  by_cases g : h ≤ dp_sp c i j h
  · rw [if_pos g, if_pos g]
    exact (hd_am_val (fun u => dp_V c (dp_B c) i j h (dp_sp c i j h) u) _ _).symm
  · rw [if_neg g, if_neg g]
    exact (hd_am_val (fun u => dp_V c (dp_B c) i j h (dp_sp c i j h) u) _ _).symm
theorem dp_first {c : Int → Int → Int → Int → Int} {i j h s u : Int} (h24 : j - i ≤ 24) (hf : dp_fit i j h s u) (he : dp_V c (dp_B c) i j h s u = dp_B c i j h) : dp_sp c i j h ≤ s ∧ (s = dp_sp c i j h → dp_un c i j h ≤ u) := by
  have hij : i < j := by have := hf.1; omega
  have e0 := dp_B_S (c := c) (h := h) hij h24
  have e1 := dp_S_at c i j h
  have l1 := dp_I_le (c := c) (T := dp_B c) hf
  refine ⟨?_, fun es => ?_⟩
  · rcases Int.lt_or_le s (dp_sp c i j h) with g | g
    · have h1 : dp_S c (dp_B c) i j h < dp_I c (dp_B c) i j h s := hd_am_first (f := fun s => dp_I c (dp_B c) i j h s) hf.1.1 g
      omega
    · exact g
  · subst es
    rcases Int.lt_or_le u (dp_un c i j h) with g | g
    · exfalso
      unfold dp_un at g
      by_cases hs : h ≤ dp_sp c i j h
      · rw [if_pos hs] at g
        have h1 := hd_am_first (f := fun u => dp_V c (dp_B c) i j h (dp_sp c i j h) u) (hf.2.1 hs).1 g
        have h2 : dp_I c (dp_B c) i j h (dp_sp c i j h) = hd_mn (fun u => dp_V c (dp_B c) i j h (dp_sp c i j h) u) (dp_sp c i j h + 1) (j - dp_sp c i j h - 1).toNat := by
          unfold dp_I
          rw [if_pos hs]
        omega
      · rw [if_neg hs] at g
        have h1 := hd_am_first (f := fun u => dp_V c (dp_B c) i j h (dp_sp c i j h) u) (hf.2.2 hs).1 g
        have h2 : dp_I c (dp_B c) i j h (dp_sp c i j h) = hd_mn (fun u => dp_V c (dp_B c) i j h (dp_sp c i j h) u) i (dp_sp c i j h - i).toNat := by
          unfold dp_I
          rw [if_neg hs]
        omega
    · exact g
/-- what the best tree by p costs by c -/
def sw_v (c p : Int → Int → Int → Int → Int) (i j h dp : Int) : Int := tq_sm (fun e => c e.2.2.1 (tr_un p e) (tq_l p e) (tq_r p e)) (tr_J p i j h dp)
theorem sw_v_1 (c p : Int → Int → Int → Int → Int) (i h dp : Int) : sw_v c p i i h dp = 0 := by
  unfold sw_v
  rw [tr_J_1]
  rfl
theorem sw_v_s (c p : Int → Int → Int → Int → Int) {i j h dp : Int} (hij : i < j) : sw_v c p i j h dp = c h (dp_un p i j h) (dp_sp p i j h - i + 1) (j - dp_sp p i j h) + (sw_v c p i (dp_sp p i j h) (tr_hl p i j h) (dp + 1) + sw_v c p (dp_sp p i j h + 1) j (tr_hr p i j h) (dp + 1)) := by
  unfold sw_v
  rw [tr_J_s hij]
  show c h (dp_un p i j h) (dp_sp p i j h + 1 - i) (j - dp_sp p i j h) + tq_sm _ (_ ++ _) = _
  rw [tq_sm_app]
  have e : dp_sp p i j h + 1 - i = dp_sp p i j h - i + 1 := by omega
  rw [e]
theorem dp_V_h (c p : Int → Int → Int → Int → Int) (T : Int → Int → Int → Int) (i j h : Int) : dp_V c T i j h (dp_sp p i j h) (dp_un p i j h) = (T i (dp_sp p i j h) (tr_hl p i j h) + T (dp_sp p i j h + 1) j (tr_hr p i j h)) + c h (dp_un p i j h) (dp_sp p i j h - i + 1) (j - dp_sp p i j h) := by
  unfold dp_V tr_hl tr_hr
  by_cases g : h ≤ dp_sp p i j h
  · rw [if_pos g, if_pos g, if_pos g]
  · rw [if_neg g, if_neg g, if_neg g]
    omega
/-- no tree costs less than the best -/
theorem sw_ge (c p : Int → Int → Int → Int → Int) : ∀ (i j h dp : Int), i ≤ h → h ≤ j → j - i ≤ 24 → dp_B c i j h ≤ sw_v c p i j h dp := by
  refine tr_ind p (fun i dp _ => ?_) (fun i j h dp hij a b p1 p2 h24 => ?_)
  · rw [dp_B_0, sw_v_1]
    exact Int.le_refl _
  · have s1 := dp_sp_in (c := p) (h := h) hij
    have q1 := p1 (by omega)
    have q2 := p2 (by omega)
    have l := dp_le (c := c) h24 (dp_fit_own p (h := h) hij)
    rw [dp_V_h] at l
    rw [sw_v_s c p hij]
    omega
/-- the best tree costs the least -/
theorem sw_own (c : Int → Int → Int → Int → Int) : ∀ (i j h dp : Int), i ≤ h → h ≤ j → j - i ≤ 24 → sw_v c c i j h dp = dp_B c i j h := by
  refine tr_ind c (fun i dp _ => ?_) (fun i j h dp hij a b p1 p2 h24 => ?_)
  · rw [dp_B_0, sw_v_1]
  · have s1 := dp_sp_in (c := c) (h := h) hij
    have q1 := p1 (by omega)
    have q2 := p2 (by omega)
    rw [dp_at hij h24, dp_V_h, sw_v_s c c hij]
    omega
/-- two trees that are both best by both costs are one -/
theorem sw_same (c p : Int → Int → Int → Int → Int) : ∀ (i j h dp : Int), i ≤ h → h ≤ j → j - i ≤ 24 → sw_v c p i j h dp = dp_B c i j h → sw_v p c i j h dp = dp_B p i j h → tr_Q c i j h dp = tr_Q p i j h dp ∧ ∀ x : Int → Int → Int → Int → Int, sw_v x c i j h dp = sw_v x p i j h dp := by
  refine tr_ind p (fun i dp _ _ _ => ?_) (fun i j h dp hij a b p1 p2 h24 e1 e2 => ?_)
  · exact ⟨by rw [tr_Q_1, tr_Q_1], fun x => by rw [sw_v_1, sw_v_1]⟩
  · have s1 := dp_sp_in (c := p) (h := h) hij
    have s2 := dp_sp_in (c := c) (h := h) hij
    have l1 := tr_hl_in (c := p) hij a
    have r1 := tr_hr_in (c := p) hij b
    have l2 := tr_hl_in (c := c) hij a
    have r2 := tr_hr_in (c := c) hij b
    have lc := dp_le (c := c) h24 (dp_fit_own p (h := h) hij)
    have lp := dp_le (c := p) h24 (dp_fit_own c (h := h) hij)
    rw [dp_V_h] at lc lp
    have g1 := sw_ge c p i (dp_sp p i j h) (tr_hl p i j h) (dp + 1) l1.1 l1.2 (by omega)
    have g2 := sw_ge c p (dp_sp p i j h + 1) j (tr_hr p i j h) (dp + 1) r1.1 r1.2 (by omega)
    have g3 := sw_ge p c i (dp_sp c i j h) (tr_hl c i j h) (dp + 1) l2.1 l2.2 (by omega)
    have g4 := sw_ge p c (dp_sp c i j h + 1) j (tr_hr c i j h) (dp + 1) r2.1 r2.2 (by omega)
    rw [sw_v_s c p hij] at e1
    rw [sw_v_s p c hij] at e2
    have fc := dp_first (c := c) h24 (dp_fit_own p (h := h) hij) (by rw [dp_V_h]; omega)
    have fp := dp_first (c := p) h24 (dp_fit_own c (h := h) hij) (by rw [dp_V_h]; omega)
    have es : dp_sp c i j h = dp_sp p i j h := by omega
    have eu : dp_un c i j h = dp_un p i j h := by
      have := fc.2 es.symm
      have := fp.2 es
      omega
    have el : tr_hl c i j h = tr_hl p i j h := by unfold tr_hl; rw [es, eu]
    have er : tr_hr c i j h = tr_hr p i j h := by unfold tr_hr; rw [es, eu]
    rw [es, el] at g3
    rw [es, er] at g4
    rw [es, eu, el, er] at e2 lp
    obtain ⟨u1, u2⟩ := p1 (by omega) (by omega) (by omega)
    obtain ⟨u3, u4⟩ := p2 (by omega) (by omega) (by omega)
    refine ⟨?_, fun x => ?_⟩
    · rw [tr_Q_s (c := c) hij, tr_Q_s (c := p) hij, es, el, er, u1, u3]
    · rw [sw_v_s x c hij, sw_v_s x p hij, es, eu, el, er, u2, u4]
theorem tr_Q_cons (c : Int → Int → Int → Int → Int) (i j h dp : Int) : ∃ r, tr_Q c i j h dp = (i, j, h, dp) :: r := by
  have := tr_Q_root c i j h dp
  cases hq : tr_Q c i j h dp with
  | nil => rw [hq] at this; simp at this
  | cons x r =>
    rw [hq] at this
    simp at this
    exact ⟨r, by rw [this]⟩
/-- a part without its depth -/
def tr_3 (e : Int × Int × Int × Int) : Int × Int × Int := (e.1, e.2.1, e.2.2.1)
/-- trees with the same parts cost the same -/
theorem sw_list (c p : Int → Int → Int → Int → Int) : ∀ (i j h dp : Int), i ≤ h → h ≤ j → ∀ h' : Int, i ≤ h' → h' ≤ j → (tr_Q c i j h dp).map tr_3 = (tr_Q p i j h' dp).map tr_3 → h = h' ∧ ∀ x : Int → Int → Int → Int → Int, sw_v x c i j h dp = sw_v x p i j h' dp := by
  refine tr_ind c (fun i dp h' a1 a2 _ => ?_) (fun i j h dp hij a b p1 p2 h' a1 a2 e => ?_)
  · exact ⟨by omega, fun x => by rw [sw_v_1, sw_v_1]⟩
  · have s1 := dp_sp_in (c := c) (h := h) hij
    have s2 := dp_sp_in (c := p) (h := h') hij
    have l1 := tr_hl_in (c := c) hij a
    have r1 := tr_hr_in (c := c) hij b
    have l2 := tr_hl_in (c := p) hij a1
    have r2 := tr_hr_in (c := p) hij a2
    rw [tr_Q_s (c := c) hij, tr_Q_s (c := p) hij, List.map_cons, List.map_cons, List.cons.injEq, List.map_append, List.map_append] at e
    obtain ⟨e0, e⟩ := e
    have eh : h = h' := by
      unfold tr_3 at e0
      simp only [Prod.mk.injEq] at e0
      exact e0.2.2
    subst eh
    have eS : dp_sp c i j h = dp_sp p i j h := by
      obtain ⟨x, hx⟩ := tr_Q_cons c i (dp_sp c i j h) (tr_hl c i j h) (dp + 1)
      obtain ⟨y, hy⟩ := tr_Q_cons p i (dp_sp p i j h) (tr_hl p i j h) (dp + 1)
      rw [hx, hy, List.map_cons, List.map_cons, List.cons_append, List.cons_append, List.cons.injEq] at e
      have := e.1
      unfold tr_3 at this
      simp only [Prod.mk.injEq] at this
      exact this.2.1
    have n1 := tr_Q_len c i (dp_sp c i j h) (tr_hl c i j h) (dp + 1) l1.1 l1.2
    have n2 := tr_Q_len p i (dp_sp p i j h) (tr_hl p i j h) (dp + 1) l2.1 l2.2
    obtain ⟨q1, q2⟩ := List.append_inj e (by rw [List.length_map, List.length_map]; omega)
    rw [eS] at q1 q2
    have p1' := p1 (tr_hl p i j h) l2.1 (by omega) (by rw [eS]; exact q1)
    have p2' := p2 (tr_hr p i j h) (by omega) r2.2 (by rw [eS]; exact q2)
    have eu : dp_un c i j h = dp_un p i j h := by
      have b1 := p1'.1
      have b2 := p2'.1
      unfold tr_hl at b1
      unfold tr_hr at b2
      rw [eS] at b1 b2
      by_cases g : h ≤ dp_sp p i j h
      · rw [if_pos g, if_pos g] at b2
        exact b2
      · rw [if_neg g, if_neg g] at b1
        exact b1
    refine ⟨rfl, fun x => ?_⟩
    rw [sw_v_s x c hij, sw_v_s x p hij, p1'.2 x, p2'.2 x, eS, eu]
theorem tq_sm_lin (a b : Int × Int × Int × Int → Int) (v : Int) : ∀ L : List (Int × Int × Int × Int), tq_sm (fun e => a e + v * b e) L = tq_sm a L + v * tq_sm b L
  | [] => by simp [tq_sm]
  | e :: L => by
    have := tq_sm_lin a b v L
    show a e + v * b e + tq_sm (fun e => a e + v * b e) L = a e + tq_sm a L + v * (b e + tq_sm b L)
    rw [this, Int.mul_add]
    omega
/-- a cost with a weight -/
def sw_c (c k : Int → Int → Int → Int → Int) (v : Int) : Int → Int → Int → Int → Int := fun h u l r => c h u l r + v * k h u l r
theorem sw_v_lin (c k p : Int → Int → Int → Int → Int) (v i j h dp : Int) : sw_v (sw_c c k v) p i j h dp = sw_v c p i j h dp + v * sw_v k p i j h dp := tq_sm_lin _ _ v _
/-! the whole, over all weights -/
def sw_H (c k : Int → Int → Int → Int → Int) (i j v : Int) : Int := dp_H (sw_c c k v) i j
def sw_B (c k : Int → Int → Int → Int → Int) (i j v : Int) : Int := dp_B (sw_c c k v) i j (sw_H c k i j v)
def sw_S (c k : Int → Int → Int → Int → Int) (i j v : Int) : Int := sw_v k (sw_c c k v) i j (sw_H c k i j v) 0
def sw_Q (c k : Int → Int → Int → Int → Int) (i j v : Int) : List (Int × Int × Int × Int) := tr_Q (sw_c c k v) i j (sw_H c k i j v) 0
theorem sw_H_in (c k : Int → Int → Int → Int → Int) {i j : Int} (hij : i ≤ j) (v : Int) : i ≤ sw_H c k i j v ∧ sw_H c k i j v ≤ j := dp_H_in hij
theorem sw_H_le (c k : Int → Int → Int → Int → Int) {i j : Int} (v : Int) {h : Int} (h1 : i ≤ h) (h2 : h ≤ j) : sw_B c k i j v ≤ dp_B (sw_c c k v) i j h ∧ (sw_B c k i j v = dp_B (sw_c c k v) i j h → sw_H c k i j v ≤ h) := by
  have e : sw_B c k i j v = hd_mn (fun h => dp_B (sw_c c k v) i j h) i (j - i).toNat := hd_am_val (fun h => dp_B (sw_c c k v) i j h) i (j - i).toNat
  refine ⟨?_, fun g => ?_⟩
  · rw [e]
    exact hd_mn_le (f := fun h => dp_B (sw_c c k v) i j h) h1 (by omega)
  · rcases Int.lt_or_le h (sw_H c k i j v) with q | q
    · have := hd_am_first (f := fun h => dp_B (sw_c c k v) i j h) h1 q
      omega
    · exact q
/-- what the best tree by one weight costs by another -/
theorem sw_at (c k : Int → Int → Int → Int → Int) {i j : Int} (hij : i ≤ j) (h24 : j - i ≤ 24) (x v : Int) : sw_v (sw_c c k x) (sw_c c k v) i j (sw_H c k i j v) 0 = sw_B c k i j v + (x - v) * sw_S c k i j v := by
  have hH := sw_H_in c k hij v
  have own := sw_own (sw_c c k v) i j (sw_H c k i j v) 0 hH.1 hH.2 h24
  rw [sw_v_lin] at own ⊢
  have e : sw_B c k i j v = dp_B (sw_c c k v) i j (sw_H c k i j v) := rfl
  have e2 : sw_S c k i j v = sw_v k (sw_c c k v) i j (sw_H c k i j v) 0 := rfl
  rw [e, ← own, e2, Int.sub_mul]
  omega
theorem sw_low (c k : Int → Int → Int → Int → Int) {i j : Int} (hij : i ≤ j) (h24 : j - i ≤ 24) (x v : Int) : sw_B c k i j x ≤ sw_B c k i j v + (x - v) * sw_S c k i j v := by
  have hH := sw_H_in c k hij v
  have g := sw_ge (sw_c c k x) (sw_c c k v) i j (sw_H c k i j v) 0 hH.1 hH.2 h24
  rw [sw_at c k hij h24] at g
  have := (sw_H_le c k x hH.1 hH.2).1
  omega
theorem sw_eqv (c k : Int → Int → Int → Int → Int) {i j : Int} (hij : i ≤ j) (h24 : j - i ≤ 24) {a b : Int} (h1 : sw_B c k i j a = sw_B c k i j b + (a - b) * sw_S c k i j b) (h2 : sw_B c k i j b = sw_B c k i j a + (b - a) * sw_S c k i j a) : sw_H c k i j a = sw_H c k i j b ∧ sw_Q c k i j a = sw_Q c k i j b ∧ sw_S c k i j a = sw_S c k i j b := by
  have ha := sw_H_in c k hij a
  have hb := sw_H_in c k hij b
  have g1 := sw_ge (sw_c c k a) (sw_c c k b) i j (sw_H c k i j b) 0 hb.1 hb.2 h24
  have g2 := sw_ge (sw_c c k b) (sw_c c k a) i j (sw_H c k i j a) 0 ha.1 ha.2 h24
  rw [sw_at c k hij h24] at g1 g2
  have m1 := sw_H_le c k a hb.1 hb.2
  have m2 := sw_H_le c k b ha.1 ha.2
  have eH : sw_H c k i j a = sw_H c k i j b := by
    have := m1.2 (by omega)
    have := m2.2 (by omega)
    omega
  have o1 := sw_at c k hij h24 a b
  have o2 := sw_at c k hij h24 b a
  have e1 : sw_B c k i j a = dp_B (sw_c c k a) i j (sw_H c k i j a) := rfl
  have e2 : sw_B c k i j b = dp_B (sw_c c k b) i j (sw_H c k i j b) := rfl
  have s := sw_same (sw_c c k a) (sw_c c k b) i j (sw_H c k i j a) 0 ha.1 ha.2 h24 (by rw [eH, o1, ← h1, e1, eH]) (by rw [o2, ← h2, e2, eH])
  refine ⟨eH, ?_, ?_⟩
  · unfold sw_Q
    rw [s.1, eH]
  · unfold sw_S
    rw [s.2 k, eH]
/-- on one line -/
def sw_one (c k : Int → Int → Int → Int → Int) (i j a b : Int) : Prop := sw_S c k i j a = sw_S c k i j b ∧ sw_B c k i j b - sw_B c k i j a = sw_S c k i j a * (b - a)
theorem sw_mul_sw (x y z : Int) : (x - y) * z = -(z * (y - x)) := by
  rw [Int.mul_comm z, ← Int.neg_mul]
  have : x - y = -(y - x) := by omega
  rw [this]
theorem sw_one_eq (c k : Int → Int → Int → Int → Int) {i j : Int} (hij : i ≤ j) (h24 : j - i ≤ 24) {a b : Int} (h : sw_one c k i j a b) : sw_H c k i j a = sw_H c k i j b ∧ sw_Q c k i j a = sw_Q c k i j b ∧ sw_S c k i j a = sw_S c k i j b := by
  obtain ⟨h1, h2⟩ := h
  refine sw_eqv c k hij h24 ?_ ?_
  · rw [sw_mul_sw, ← h1]
    omega
  · rw [Int.mul_comm]
    omega
/-- the same parts lie on one line -/
theorem sw_eq_one (c k : Int → Int → Int → Int → Int) {i j : Int} (hij : i ≤ j) (h24 : j - i ≤ 24) {a b : Int} (h : (sw_Q c k i j a).map tr_3 = (sw_Q c k i j b).map tr_3) : sw_one c k i j a b := by
  have ha := sw_H_in c k hij a
  have hb := sw_H_in c k hij b
  obtain ⟨e, s⟩ := sw_list (sw_c c k a) (sw_c c k b) i j _ 0 ha.1 ha.2 _ hb.1 hb.2 h
  have eS : sw_S c k i j a = sw_S c k i j b := s k
  have o1 := sw_at c k hij h24 b a
  have o2 := sw_at c k hij h24 b b
  rw [s (sw_c c k b), o2] at o1
  refine ⟨eS, ?_⟩
  rw [Int.mul_comm (sw_S c k i j a)]
  have z : (b - b) * sw_S c k i j b = 0 := by rw [Int.sub_self, Int.zero_mul]
  omega
theorem sw_ar {A V B s t p q : Int} (hp : 0 < p) (hq : 0 < q) (h1 : V ≤ A + p * s) (h2 : A + p * t ≤ V) (h3 : B ≤ V + q * t) (h4 : B = A + (p * s + q * s)) : s = t ∧ V = A + p * s := by
  have a1 : t ≤ s := Int.le_of_mul_le_mul_left (by omega : p * t ≤ p * s) hp
  have a2 : s ≤ t := Int.le_of_mul_le_mul_left (by omega : q * s ≤ q * t) hq
  have e : s = t := by omega
  subst e
  exact ⟨rfl, by omega⟩
/-- what lies between two weights of one line lies on it -/
theorem sw_mid (c k : Int → Int → Int → Int → Int) {i j : Int} (hij : i ≤ j) (h24 : j - i ≤ 24) {a b v : Int} (h : sw_one c k i j a b) (hv : (a ≤ v ∧ v ≤ b) ∨ (b ≤ v ∧ v ≤ a)) : sw_one c k i j a v := by
  obtain ⟨h1, h2⟩ := id h
  by_cases ea : v = a
  · subst ea
    exact ⟨rfl, by rw [Int.sub_self, Int.sub_self, Int.mul_zero]⟩
  by_cases eb : v = b
  · subst eb
    exact h
  have l1 := sw_low c k hij h24 v a
  have l2 := sw_low c k hij h24 a v
  have l3 := sw_low c k hij h24 b v
  rcases hv with ⟨v1, v2⟩ | ⟨v1, v2⟩
  · have x1 : (a - v) * sw_S c k i j v = -((v - a) * sw_S c k i j v) := by rw [sw_mul_sw, Int.mul_comm]
    have x2 : sw_S c k i j a * (b - a) = (v - a) * sw_S c k i j a + (b - v) * sw_S c k i j a := by
      rw [← Int.add_mul, Int.mul_comm]
      have : v - a + (b - v) = b - a := by omega
      rw [this]
    obtain ⟨y1, y2⟩ := sw_ar (A := sw_B c k i j a) (V := sw_B c k i j v) (B := sw_B c k i j b) (s := sw_S c k i j a) (t := sw_S c k i j v) (p := v - a) (q := b - v) (by omega) (by omega) l1 (by omega) l3 (by omega)
    exact ⟨y1, by rw [Int.mul_comm]; omega⟩
  · have x1 : (v - a) * sw_S c k i j a = (a - v) * (-sw_S c k i j a) := by
      rw [sw_mul_sw, Int.mul_neg, Int.mul_comm]
    have x2 : (a - v) * sw_S c k i j v = -((a - v) * (-sw_S c k i j v)) := by rw [Int.mul_neg, Int.neg_neg]
    have x3 : (b - v) * sw_S c k i j v = (v - b) * (-sw_S c k i j v) := by
      rw [sw_mul_sw, Int.mul_neg, Int.mul_comm]
    have x4 : sw_S c k i j a * (b - a) = (a - v) * (-sw_S c k i j a) + (v - b) * (-sw_S c k i j a) := by
      rw [← Int.add_mul]
      have : a - v + (v - b) = a - b := by omega
      rw [this, sw_mul_sw, Int.neg_mul, Int.neg_neg]
    obtain ⟨y1, y2⟩ := sw_ar (A := sw_B c k i j a) (V := sw_B c k i j v) (B := sw_B c k i j b) (s := -sw_S c k i j a) (t := -sw_S c k i j v) (p := a - v) (q := v - b) (by omega) (by omega) (by omega) (by omega) (by omega) (by omega)
    refine ⟨by omega, ?_⟩
    rw [Int.mul_comm]
    omega
