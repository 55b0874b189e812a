/-! the reference's tree -/
def md_len2 (m : ab_Ob) : Prop := (m.2 31).1 = 48 ∧ (m.2 32).1 = 48 ∧ (m.2 33).1 = 48 ∧ (m.2 34).1 = 48 ∧ (m.2 35).1 = 24 ∧ (m.2 36).1 = 48 ∧ (m.2 37).1 = 48 ∧ (m.2 38).1 = 48 ∧ (m.2 39).1 = 48
/-- all cells of the tables are right -/
def md_all (m : ab_Ob) (c : Int → Int → Int → Int → Int) (n : Int) : Prop := ∀ i j h : Int, 0 ≤ i → i ≤ j → j < n → i ≤ h → h ≤ j → md_ce m c i j h
def md_go (m : ab_Ob) (a b h d : Int) : ab_Ob := ab_pf (ab_pa (ab_pa (ab_pa (ab_pa m 36 (m.1 41) a) 37 (m.1 41) b) 38 (m.1 41) h) 39 (m.1 41) d) 41 (m.1 41 + 1)
theorem c9_goes (dd : Nat) (m : ab_Ob) (hl : md_len2 m) (h0 : 0 ≤ m.1 41) (h1 : m.1 41 < 48) (a b h d : Int) : ab_Ct (dd + 1) 0 0 mX9_goes [ab_O 0, ab_I a, ab_I b, ab_I h, ab_I d] [m] (ab_V1 (fun v => v = md_go m a b h d)) := by
  obtain ⟨n1, n2, n3, n4, n5, n6, n7, n8, n9⟩ := hl
  exact ab_ct kX9_goes rfl rfl (fun x hx => vX9_goes_0 hx a b h d m 0 0 ⟨by omega, by omega, by omega, by omega, by omega, ab_lv1 rfl⟩)
/-- the least depth of a part with a head -/
def mt_rk (E : List (Int × Int × Int × Int)) (k : Int) : Int := E.foldl (fun r e => if e.2.2.1 = k ∧ e.2.2.2 < r then e.2.2.2 else r) 24
theorem mt_rk_s (E : List (Int × Int × Int × Int)) (e : Int × Int × Int × Int) (k : Int) : mt_rk (E ++ [e]) k = if e.2.2.1 = k ∧ e.2.2.2 < mt_rk E k then e.2.2.2 else mt_rk E k := by
  unfold mt_rk
  rw [List.foldl_append]
  rfl
def mt_pt (v : ab_Ob) (p : Int) (e : Int × Int × Int × Int) : Prop := (v.2 31).2 p = e.1 ∧ (v.2 32).2 p = e.2.1 ∧ (v.2 33).2 p = e.2.2.1 ∧ (v.2 34).2 p = e.2.2.2
def mt_op (v : ab_Ob) (p : Int) (e : Int × Int × Int × Int) : Prop := (v.2 36).2 p = e.1 ∧ (v.2 37).2 p = e.2.1 ∧ (v.2 38).2 p = e.2.2.1 ∧ (v.2 39).2 p = e.2.2.2
def mt_st (v : ab_Ob) : List (Int × Int × Int × Int) → Prop
  | [] => True
  | e :: l => mt_op v (l.length : Int) e ∧ mt_st v l
theorem mt_st_congr {v v' : ab_Ob} : ∀ {l : List (Int × Int × Int × Int)} (N : Int), (l.length : Int) ≤ N → (∀ p : Int, 0 ≤ p → p < N → (v'.2 36).2 p = (v.2 36).2 p ∧ (v'.2 37).2 p = (v.2 37).2 p ∧ (v'.2 38).2 p = (v.2 38).2 p ∧ (v'.2 39).2 p = (v.2 39).2 p) → mt_st v l → mt_st v' l
  | [], _, _, _, _ => trivial
  | e :: l, N, hN, h, ⟨h1, h2⟩ => by
    simp only [List.length_cons] at hN
    push_cast at hN
    refine ⟨?_, mt_st_congr N (by omega) h h2⟩
    have := h l.length (by omega) (by omega)
    unfold mt_op at h1 ⊢
    rw [this.1, this.2.1, this.2.2.1, this.2.2.2]
    exact h1
/-- what does not change while the tree is laid -/
def mt_fr (m v : ab_Ob) : Prop := (∀ f, f ≠ 40 → f ≠ 41 → v.1 f = m.1 f) ∧ (∀ f, f < 31 ∨ 39 < f → v.2 f = m.2 f) ∧ ∀ f, (v.2 f).1 = (m.2 f).1
def mt_iv (m v : ab_Ob) (E T : List (Int × Int × Int × Int)) : Prop := mt_fr m v ∧ v.1 40 = E.length ∧ v.1 41 = T.length ∧ (∀ (p : Nat) e, E[p]? = some e → mt_pt v p e) ∧ mt_st v T ∧ ∀ k : Int, 0 ≤ k → k < 24 → (v.2 35).2 k = mt_rk E k
theorem mt_fr_len2 {m v : ab_Ob} (h : mt_fr m v) (hl : md_len2 m) : md_len2 v := by
  unfold md_len2
  simp only [h.2.2]
  exact hl
theorem mt_push {m v : ab_Ob} {E T : List (Int × Int × Int × Int)} (h : mt_iv m v E T) (a b k d : Int) : mt_iv m (md_go v a b k d) E ((a, b, k, d) :: T) := by
  obtain ⟨⟨f1, f2, f3⟩, h40, h41, hE, hT, hr⟩ := h
  refine ⟨⟨fun f g1 g2 => ?_, fun f g => ?_, fun f => ?_⟩, ?_, ?_, fun p e he => ?_, ⟨?_, ?_⟩, fun q q0 q1 => ?_⟩
  · unfold md_go
    rw [hd_pf_ne g2]
    exact f1 f g1 g2
  · unfold md_go
    rw [hd_pf_2, hd_pa_ne (by omega), hd_pa_ne (by omega), hd_pa_ne (by omega), hd_pa_ne (by omega)]
    exact f2 f g
  · unfold md_go
    rw [hd_pf_2, hd_pa_len, hd_pa_len, hd_pa_len, hd_pa_len]
    exact f3 f
  · unfold md_go
    rw [hd_pf_ne (by decide)]
    exact h40
  · unfold md_go
    rw [hd_pf_eq, h41]
    simp
  · have := hE p e he
    unfold mt_pt md_go at *
    simp [ab_pf, ab_pa, ab_ua] at *
    exact this
  · unfold mt_op md_go
    rw [← h41]
    simp [ab_pf, ab_pa, ab_ua, ab_ui]
  · refine mt_st_congr (v := v) (T.length : Int) (by omega) (fun p p0 p1 => ?_) hT
    unfold md_go
    have : p ≠ v.1 41 := by omega
    simp [ab_pf, ab_pa, ab_ua, ab_ui, this]
  · have := hr q q0 q1
    unfold md_go
    rw [hd_pf_2, hd_pa_ne (by decide), hd_pa_ne (by decide), hd_pa_ne (by decide), hd_pa_ne (by decide)]
    exact this
def mt_w1 (w : ab_Ob) (p o i j h d : Int) : ab_Ob := ab_pf (ab_pa (ab_pa (ab_pa (ab_pa (ab_pf w 41 o) 31 p i) 32 p j) 33 p h) 34 p d) 40 (p + 1)
def mt_w2 (w : ab_Ob) (p o i j h d : Int) : ab_Ob := if (w.2 35).2 h ≤ d then mt_w1 w p o i j h d else ab_pa (mt_w1 w p o i j h d) 35 h d
theorem mt_pop {m v : ab_Ob} {E T : List (Int × Int × Int × Int)} {i j k d : Int} (h : mt_iv m v E ((i, j, k, d) :: T)) (hk : 0 ≤ k ∧ k < 24) : mt_iv m (mt_w2 v (v.1 40) (v.1 41 - 1) i j k d) (E ++ [(i, j, k, d)]) T := by
  obtain ⟨⟨f1, f2, f3⟩, h40, h41, hE, hT, hr⟩ := h
  have w1 : mt_fr m (mt_w1 v (v.1 40) (v.1 41 - 1) i j k d) := by
    refine ⟨fun f g1 g2 => ?_, fun f g => ?_, fun f => ?_⟩
    · unfold mt_w1
      rw [hd_pf_ne g1]
      show (ab_pf v 41 (v.1 41 - 1)).1 f = _
      rw [hd_pf_ne g2]
      exact f1 f g1 g2
    · unfold mt_w1
      rw [hd_pf_2, hd_pa_ne (by omega), hd_pa_ne (by omega), hd_pa_ne (by omega), hd_pa_ne (by omega), hd_pf_2]
      exact f2 f g
    · unfold mt_w1
      rw [hd_pf_2, hd_pa_len, hd_pa_len, hd_pa_len, hd_pa_len, hd_pf_2]
      exact f3 f
  have s40 : (mt_w1 v (v.1 40) (v.1 41 - 1) i j k d).1 40 = v.1 40 + 1 := by simp [mt_w1, ab_pf, ab_up]
  have s41 : (mt_w1 v (v.1 40) (v.1 41 - 1) i j k d).1 41 = v.1 41 - 1 := by simp [mt_w1, ab_pf, ab_pa, ab_up]
  have a35 : (mt_w1 v (v.1 40) (v.1 41 - 1) i j k d).2 35 = v.2 35 := rfl
  have a36 : ∀ f, f = 36 ∨ f = 37 ∨ f = 38 ∨ f = 39 → (mt_w1 v (v.1 40) (v.1 41 - 1) i j k d).2 f = v.2 f := fun f hf => by
    unfold mt_w1
    rw [hd_pf_2, hd_pa_ne (by omega), hd_pa_ne (by omega), hd_pa_ne (by omega), hd_pa_ne (by omega), hd_pf_2]
  have pts : ∀ (p : Nat) e, (E ++ [(i, j, k, d)])[p]? = some e → mt_pt (mt_w1 v (v.1 40) (v.1 41 - 1) i j k d) p e := fun p e he => by
    by_cases hp : p < E.length
    · rw [List.getElem?_append_left hp] at he
      have := hE p e he
      have ne : (p : Int) ≠ v.1 40 := by omega
      unfold mt_pt mt_w1 at *
      simp [ab_pf, ab_pa, ab_ua, ab_ui, ne] at *
      exact this
    · rw [List.getElem?_append_right (by omega)] at he
      have e0 : p - E.length = 0 := by
        obtain ⟨wl, _⟩ := List.getElem?_eq_some_iff.mp he
        simp at wl
        omega
      rw [e0] at he
      simp only [List.getElem?_cons_zero, Option.some.injEq] at he
      subst he
      have eq : (p : Int) = v.1 40 := by omega
      rw [eq]
      unfold mt_pt mt_w1
      simp [ab_pf, ab_pa, ab_ua, ab_ui]
  have st : mt_st (mt_w1 v (v.1 40) (v.1 41 - 1) i j k d) T := mt_st_congr (v := v) (T.length : Int) (by omega) (fun p p0 p1 => by rw [a36 36 (by decide), a36 37 (by decide), a36 38 (by decide), a36 39 (by decide)]; exact ⟨rfl, rfl, rfl, rfl⟩) hT.2
  simp only [List.length_cons] at h41
  push_cast at h41
  unfold mt_w2
  have hrk := hr k hk.1 hk.2
  by_cases g : (v.2 35).2 k ≤ d
  · rw [if_pos g]
    refine ⟨w1, by rw [s40, h40]; simp, by rw [s41]; omega, pts, st, fun q q0 q1 => ?_⟩
    rw [a35, hr q q0 q1, mt_rk_s]
    rw [if_neg]
    rintro ⟨e1, e2⟩
    dsimp only at e1 e2
    subst e1
    omega
  · rw [if_neg g]
    refine ⟨⟨w1.1, fun f hf => by rw [hd_pa_ne (by omega)]; exact w1.2.1 f hf, fun f => by rw [hd_pa_len]; exact w1.2.2 f⟩, by show (mt_w1 v (v.1 40) (v.1 41 - 1) i j k d).1 40 = _; rw [s40, h40]; simp, by show (mt_w1 v (v.1 40) (v.1 41 - 1) i j k d).1 41 = _; rw [s41]; omega, fun p e he => ?_, ?_, fun q q0 q1 => ?_⟩
    · have := pts p e he
      unfold mt_pt at this ⊢
      rw [hd_pa_ne (by decide), hd_pa_ne (by decide), hd_pa_ne (by decide), hd_pa_ne (by decide)]
      exact this
    · refine mt_st_congr (v := mt_w1 v (v.1 40) (v.1 41 - 1) i j k d) (T.length : Int) (by omega) (fun p p0 p1 => ?_) st
      rw [hd_pa_ne (by decide), hd_pa_ne (by decide), hd_pa_ne (by decide), hd_pa_ne (by decide)]
      exact ⟨rfl, rfl, rfl, rfl⟩
    · rw [hd_pa_eq, a35, mt_rk_s]
      show ab_ui (v.2 35).2 k d q = _
      by_cases e : q = k
      · subst e
        rw [hd_ui_eq, if_pos ⟨rfl, by dsimp only; omega⟩]
      · rw [hd_ui_ne e, hr q q0 q1, if_neg (by rintro ⟨e1, _⟩; exact e e1.symm)]
def mt_fl (c : Int → Int → Int → Int → Int) (T : List (Int × Int × Int × Int)) : List (Int × Int × Int × Int) := T.flatMap (fun e => tr_Q c e.1 e.2.1 e.2.2.1 e.2.2.2)
theorem mt_fl_len (c : Int → Int → Int → Int → Int) : ∀ T : List (Int × Int × Int × Int), (∀ e ∈ T, e.1 ≤ e.2.2.1 ∧ e.2.2.1 ≤ e.2.1) → T.length ≤ (mt_fl c T).length
  | [], _ => by simp
  | e :: T, h => by
    have h1 := mt_fl_len c T (fun e he => h e (List.mem_cons_of_mem _ he))
    have h2 := tr_Q_len c e.1 e.2.1 e.2.2.1 e.2.2.2 (h e List.mem_cons_self).1 (h e List.mem_cons_self).2
    have h3 := h e List.mem_cons_self
    unfold mt_fl at h1 ⊢
    simp only [List.flatMap_cons, List.length_append, List.length_cons]
    omega
def mt_eo (n : Int) (e : Int × Int × Int × Int) : Prop := 0 ≤ e.1 ∧ e.1 ≤ e.2.2.1 ∧ e.2.2.1 ≤ e.2.1 ∧ e.2.1 < n ∧ 0 ≤ e.2.2.2 ∧ e.2.2.2 + (e.2.1 - e.1) < n
/-- the reference holds the best tree of all -/
def mt_ok (m : ab_Ob) (c : Int → Int → Int → Int → Int) (n : Int) : Prop := m.1 40 = 2 * n - 1 ∧ (∀ (p : Nat) e, (tr_Q c 0 (n - 1) (dp_H c 0 (n - 1)) 0)[p]? = some e → mt_pt m p e) ∧ ∀ k : Int, 0 ≤ k → k < 24 → (m.2 35).2 k = mt_rk (tr_Q c 0 (n - 1) (dp_H c 0 (n - 1)) 0) k
theorem c9_laysTree (d : Nat) (m : ab_Ob) {c : Int → Int → Int → Int → Int} {n : Int} (hn : 1 ≤ n ∧ n ≤ 24) (h8 : m.1 8 = n) (hl : md_len m) (hl2 : md_len2 m) (hA : md_all m c n) : ab_Ct (d + 3) 0 0 mX9_laysTree [ab_O 0] [m] (ab_V1 (fun v => mt_fr m v ∧ mt_ok v c n)) := by
  have hH := dp_H_in (c := c) (i := 0) (j := n - 1) (by omega)
  obtain ⟨n3, n25, n26, n27, n28, n29, n30⟩ := id hl
  obtain ⟨o1, o2, o3, o4, o5, o6, o7, o8, o9⟩ := id hl2
  have ce_fr : ∀ {v : ab_Ob}, mt_fr m v → ∀ i j h : Int, 0 ≤ i → i ≤ j → j < n → i ≤ h → h ≤ j → md_ce v c i j h := fun {v} hv i j h a1 a2 a3 a4 a5 => by
    have := hA i j h a1 a2 a3 a4 a5
    unfold md_ce at this ⊢
    rw [hv.2.1 27 (by omega), hv.2.1 28 (by omega), hv.2.1 29 (by omega), hv.2.1 30 (by omega)]
    exact this
  have plen := tr_Q_len c 0 (n - 1) (dp_H c 0 (n - 1)) 0 hH.1 hH.2
  refine ab_ct kX9_laysTree rfl rfl (fun x hx => ?_)
  have k55 : ∀ (q : Nat) (v : ab_Ob) (E T : List (Int × Int × Int × Int)), (mt_fl c T).length = q → mt_iv m v E T → (∀ e ∈ T, mt_eo n e) → E ++ mt_fl c T = tr_Q c 0 (n - 1) (dp_H c 0 (n - 1)) 0 → ab_J x 55 [some (ab_O 0), none, none, none, none, none, none] [] [v] 0 0 := by
    intro q
    induction q with
    | zero =>
      intro v E T hq hv hT hP
      have hTl := mt_fl_len c T (fun e he => ⟨(hT e he).2.1, (hT e he).2.2.1⟩)
      have eT : T = [] := List.length_eq_zero_iff.mp (by omega)
      subst eT
      have eP : E = tr_Q c 0 (n - 1) (dp_H c 0 (n - 1)) 0 := by rw [← hP]; simp [mt_fl]
      subst eP
      obtain ⟨f, h40, h41, hE, hS, hr⟩ := hv
      refine vX9_laysTree_55 hx v 0 0 ⟨fun _ => ab_lv1 ⟨f, by omega, hE, hr⟩, fun g => absurd (by rw [h41]; simp) g⟩
    | succ q ih =>
      intro v E T hq hv hT hP
      have hTl := mt_fl_len c T (fun e he => ⟨(hT e he).2.1, (hT e he).2.2.1⟩)
      cases T with
      | nil => simp [mt_fl] at hq
      | cons e T =>
        obtain ⟨i, j, h, dp⟩ := e
        have eo := hT _ List.mem_cons_self
        unfold mt_eo at eo
        dsimp only at eo
        have tot : E.length + (mt_fl c ((i, j, h, dp) :: T)).length = (2 * n - 1).toNat := by
          have := congrArg List.length hP
          rw [List.length_append] at this
          omega
        have qfl : mt_fl c ((i, j, h, dp) :: T) = tr_Q c i j h dp ++ mt_fl c T := rfl
        have Tl2 := mt_fl_len c T (fun e he => ⟨(hT e (List.mem_cons_of_mem _ he)).2.1, (hT e (List.mem_cons_of_mem _ he)).2.2.1⟩)
        have pop := mt_pop hv ⟨by omega, by omega⟩
        obtain ⟨f, h40, h41, hE, ⟨hS1, hS2⟩, hr⟩ := hv
        simp only [List.length_cons] at h41 hTl
        push_cast at h41
        have l2 := mt_fr_len2 f hl2
        obtain ⟨q1, q2, q3, q4, q5, q6, q7, q8, q9⟩ := id l2
        have ix : v.1 41 - 1 = (T.length : Int) := by omega
        have r1 : (v.2 36).2 (v.1 41 - 1) = i := by rw [ix]; exact hS1.1
        have r2 : (v.2 37).2 (v.1 41 - 1) = j := by rw [ix]; exact hS1.2.1
        have r3 : (v.2 38).2 (v.1 41 - 1) = h := by rw [ix]; exact hS1.2.2.1
        have r4 : (v.2 39).2 (v.1 41 - 1) = dp := by rw [ix]; exact hS1.2.2.2
        have k183 : ∀ v', v' = mt_w2 v (v.1 40) (v.1 41 - 1) i j h dp → ab_J x 183 [some (ab_O 0), some (ab_I i), some (ab_I j), some (ab_I h), some (ab_I dp), none, none] [] [v'] 0 0 := by
          intro v' hv'
          rw [← hv'] at pop
          have lv : md_len v' := by
            have f' := pop.1
            unfold md_len
            simp only [f'.2.2]
            exact hl
          have l2' := mt_fr_len2 pop.1 hl2
          refine vX9_laysTree_183 hx _ _ _ _ v' 0 0 ⟨fun g => ?_, fun g => ?_⟩
          · have hij : i < j := by omega
            have cu := md_cu_b (i := i) (j := j) (h := h) (by omega) (by omega) (by omega)
            have ce := ce_fr pop.1 i j h (by omega) (by omega) (by omega) (by omega) (by omega)
            unfold md_ce at ce
            rw [if_pos hij, if_pos hij] at ce
            have s1 := dp_sp_in (c := c) (h := h) hij
            have hl1 := tr_hl_in (c := c) hij eo.2.1
            have hr1 := tr_hr_in (c := c) hij eo.2.2.1
            have fin : ∀ v2 : ab_Ob, v2 = md_go (md_go v' (dp_sp c i j h + 1) j (tr_hr c i j h) (dp + 1)) i (dp_sp c i j h) (tr_hl c i j h) (dp + 1) → ab_J x 55 [some (ab_O 0), none, none, none, none, none, none] [] [v2] 0 0 := by
              intro v2 hv2
              have p2 := mt_push (mt_push pop (dp_sp c i j h + 1) j (tr_hr c i j h) (dp + 1)) i (dp_sp c i j h) (tr_hl c i j h) (dp + 1)
              rw [← hv2] at p2
              have efl : mt_fl c ((i, j, h, dp) :: T) = (i, j, h, dp) :: mt_fl c ((i, dp_sp c i j h, tr_hl c i j h, dp + 1) :: (dp_sp c i j h + 1, j, tr_hr c i j h, dp + 1) :: T) := by
                rw [qfl, tr_Q_s hij]
                simp [mt_fl]
              refine ih v2 _ _ ?_ p2 ?_ ?_
              · rw [efl] at hq
                simp only [List.length_cons] at hq
                omega
              · intro e he
                rw [List.mem_cons, List.mem_cons] at he
                rcases he with rfl | rfl | he
                · unfold mt_eo; dsimp only; omega
                · unfold mt_eo; dsimp only; omega
                · exact hT e (List.mem_cons_of_mem _ he)
              · rw [← hP, efl]
                simp
            have p41 := pop.2.2.1
            have go1 : ∀ v1 : ab_Ob, v1 = md_go v' (dp_sp c i j h + 1) j (tr_hr c i j h) (dp + 1) → ab_J x 258 [some (ab_O 0), none, none, none, some (ab_I dp), none, none] [ab_I (tr_hl c i j h), ab_I (dp_sp c i j h), ab_I i, ab_O 0] [v1] 0 0 := by
              intro v1 hv1
              have p1 := mt_push pop (dp_sp c i j h + 1) j (tr_hr c i j h) (dp + 1)
              rw [← hv1] at p1
              have p141 := p1.2.2.1
              simp only [List.length_cons] at p141
              push_cast at p141
              have ql := tr_Q_len c i j h dp eo.2.1 eo.2.2.1
              have hq' : (tr_Q c i j h dp).length + (mt_fl c T).length = q + 1 := by rw [← hq, qfl, List.length_append]
              refine vX9_laysTree_258 hx _ _ _ _ v1 0 0 ⟨by omega, ab_xv1 (c9_goes (d + 1) v1 (mt_fr_len2 p1.1 hl2) (by omega) (by omega) _ _ _ _) (fun v2 hv2 => fin v2 (by rw [hv2, hv1]))⟩
            have ql := tr_Q_len c i j h dp eo.2.1 eo.2.2.1
            have hq' : (tr_Q c i j h dp).length + (mt_fl c T).length = q + 1 := by rw [← hq, qfl, List.length_append]
            have go2 : ∀ hr', hr' = tr_hr c i j h → ab_J x 235 [some (ab_O 0), some (ab_I i), none, some (ab_I h), some (ab_I dp), some (ab_I (dp_sp c i j h)), some (ab_I (dp_un c i j h))] [ab_I hr', ab_I j, ab_I (dp_sp c i j h + 1), ab_O 0] [v'] 0 0 := by
              intro hr' ehr
              subst ehr
              refine vX9_laysTree_235 hx _ _ _ _ _ _ _ _ v' 0 0 ⟨by omega, ab_xv1 (c9_goes (d + 1) v' l2' (by omega) (by omega) _ _ _ _) (fun v1 hv1 => ⟨fun g1 => ?_, fun g1 => ?_⟩)⟩
              · have := go1 v1 hv1
                have e : tr_hl c i j h = dp_un c i j h := by unfold tr_hl; rw [if_neg (by omega)]
                rw [e] at this
                exact this
              · have := go1 v1 hv1
                have e : tr_hl c i j h = h := by unfold tr_hl; rw [if_pos (by omega)]
                rw [e] at this
                exact this
            refine ab_x1 (c9_cube (d + 1) (by omega) (by omega) (by omega)) ⟨by rw [lv.2.2.2.2.1]; omega, ab_x1 (c9_cube (d + 1) (by omega) (by omega) (by omega)) ⟨by rw [lv.2.2.2.2.2.1]; omega, ?_⟩⟩
            rw [ce.2.1, ce.2.2.1]
            refine ⟨by omega, fun g1 => go2 h ?_, fun g1 => go2 _ ?_⟩
            · unfold tr_hr; rw [if_neg (by omega)]
            · unfold tr_hr; rw [if_pos (by omega)]
          · subst g
            have efl : mt_fl c ((i, i, h, dp) :: T) = (i, i, h, dp) :: mt_fl c T := by rw [qfl, tr_Q_1]; rfl
            refine ih v' _ T ?_ pop (fun e he => hT e (List.mem_cons_of_mem _ he)) ?_
            · rw [efl] at hq
              simp only [List.length_cons] at hq
              omega
            · rw [← hP, efl]
              simp
        have ql := tr_Q_len c i j h dp eo.2.1 eo.2.2.1
        refine vX9_laysTree_55 hx v 0 0 ⟨fun g => absurd g (by omega), fun _ => ⟨by omega, by omega, by omega, by omega, by omega, by omega, by omega, by omega, by omega, by omega, by rw [r3]; omega, ?_⟩⟩
        rw [r1, r2, r3, r4]
        refine ⟨fun g => k183 _ ?_, fun g => ⟨by omega, k183 _ ?_⟩⟩
        · unfold mt_w2; rw [if_pos g]; rfl
        · unfold mt_w2; rw [if_neg g]; rfl
  have k12 : ∀ (q k : Nat) (v : ab_Ob), k + q = 24 → mt_fr m v → v.1 40 = 0 → v.1 41 = 0 → (∀ t : Int, 0 ≤ t → t < k → (v.2 35).2 t = 24) → ab_J x 12 [some (ab_O 0), some (ab_I k), none, none, none, none, none] [] [v] 0 0 := by
    intro q
    induction q with
    | zero =>
      intro k v hk f h40 h41 hr
      have e8 : v.1 8 = n := by rw [f.1 8 (by decide) (by decide)]; exact h8
      have l2 := mt_fr_len2 f hl2
      have eH : hd_am (fun h => (v.2 27).2 (md_cu 0 (n - 1) h)) 0 (n - 1 - 0).toNat = dp_H c 0 (n - 1) := by
        unfold dp_H
        refine hd_am_congr fun k k1 k2 => ?_
        exact (ce_fr f 0 (n - 1) k (by omega) (by omega) (by omega) (by omega) (by omega)).1
      refine vX9_laysTree_12 hx _ v 0 0 ⟨fun _ => ?_, fun g => absurd (by omega) g⟩
      rw [e8]
      have ch := c9_headOf d v (by rw [f.2.2]; exact n27) (i := 0) (j := n - 1) (by omega) (by omega) (by omega)
      rw [eH] at ch
      refine ⟨by omega, by omega, ab_x1 ch (ab_xv1 (c9_goes (d + 1) v l2 (by omega) (by omega) _ _ _ _) (fun v' hv' => ?_))⟩
      have iv0 : mt_iv m v [] [] := ⟨f, h40, h41, fun p e he => by simp at he, trivial, fun k k0 k1 => by rw [hr k k0 (by omega)]; rfl⟩
      have iv := mt_push iv0 0 (n - 1) (dp_H c 0 (n - 1)) 0
      rw [← hv'] at iv
      refine k55 _ v' [] _ rfl iv (fun e he => ?_) ?_
      · rw [List.mem_singleton.mp he]
        unfold mt_eo
        dsimp only
        omega
      · simp [mt_fl]
    | succ q ih =>
      intro k v hk f h40 h41 hr
      have l2 := mt_fr_len2 f hl2
      have o5' := l2.2.2.2.2.1
      refine vX9_laysTree_12 hx _ v 0 0 ⟨fun g => absurd g (by omega), fun _ => ⟨by omega, by omega, ?_⟩⟩
      refine ih (k + 1) (ab_pa v 35 k 24) (by omega) ⟨f.1, fun g hg => by rw [hd_pa_ne (by omega)]; exact f.2.1 g hg, fun g => by rw [hd_pa_len]; exact f.2.2 g⟩ h40 h41 (fun t t0 t1 => ?_)
      rw [hd_pa_eq]
      show ab_ui (v.2 35).2 k 24 t = 24
      by_cases e : t = k
      · subst e; rw [hd_ui_eq]
      · rw [hd_ui_ne e]; exact hr t t0 (by push_cast at t1; omega)
  refine vX9_laysTree_0 hx m 0 0 ?_
  refine k12 24 0 _ rfl ⟨fun f g1 g2 => by rw [hd_pf_ne g2, hd_pf_ne g1], fun f _ => rfl, fun f => rfl⟩ (by rw [hd_pf_ne (by decide), hd_pf_eq]) (by rw [hd_pf_eq]) (fun t t0 t1 => absurd t1 (by omega))
