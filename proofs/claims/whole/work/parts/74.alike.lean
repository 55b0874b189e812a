/-! two spans alike -/
def al_P (c : Int → Int → Int → Int → Int) (f : Int) (e : Int × Int × Int × Int) : Prop := tq_sp c e + f = dp_sp c (e.1 + f) (e.2.1 + f) (e.2.2.1 + f) ∧ tr_un c e + f = dp_un c (e.1 + f) (e.2.1 + f) (e.2.2.1 + f)
def al_ok (c : Int → Int → Int → Int → Int) (f i j h : Int) : Prop := ∀ dp : Int, ∀ e ∈ tr_J c i j h dp, al_P c f e
theorem al_1 (c : Int → Int → Int → Int → Int) (f i h : Int) : al_ok c f i i h := fun dp e he => by
  rw [tr_J_1] at he
  simp at he
theorem al_s {c : Int → Int → Int → Int → Int} {f i j h : Int} (hij : i < j) : al_ok c f i j h ↔ al_P c f (i, j, h, 0) ∧ al_ok c f i (dp_sp c i j h) (tr_hl c i j h) ∧ al_ok c f (dp_sp c i j h + 1) j (tr_hr c i j h) := by
  constructor
  · intro H
    refine ⟨H 0 _ (by rw [tr_J_s hij]; exact List.mem_cons_self), fun dp e he => H (dp - 1) e ?_, fun dp e he => H (dp - 1) e ?_⟩
    · rw [tr_J_s hij, show dp - 1 + 1 = dp by omega]
      exact List.mem_cons_of_mem _ (List.mem_append_left _ he)
    · rw [tr_J_s hij, show dp - 1 + 1 = dp by omega]
      exact List.mem_cons_of_mem _ (List.mem_append_right _ he)
  · rintro ⟨h0, h1, h2⟩ dp e he
    rw [tr_J_s hij, List.mem_cons, List.mem_append] at he
    rcases he with he | he | he
    · subst he; exact h0
    · exact h1 _ e he
    · exact h2 _ e he
theorem al_hlr {c : Int → Int → Int → Int → Int} {f i j h : Int} (hs : dp_sp c i j h + f = dp_sp c (i + f) (j + f) (h + f)) (hu : dp_un c i j h + f = dp_un c (i + f) (j + f) (h + f)) : tr_hl c (i + f) (j + f) (h + f) = tr_hl c i j h + f ∧ tr_hr c (i + f) (j + f) (h + f) = tr_hr c i j h + f := by
  unfold tr_hl tr_hr
  rw [← hs, ← hu]
  by_cases g : h ≤ dp_sp c i j h
  · rw [if_pos g, if_pos g, if_pos (by omega), if_pos (by omega)]
    exact ⟨rfl, rfl⟩
  · rw [if_neg g, if_neg g, if_neg (by omega), if_neg (by omega)]
    exact ⟨rfl, rfl⟩
theorem al_iff (c : Int → Int → Int → Int → Int) (f : Int) : ∀ (i j h dp : Int), i ≤ h → h ≤ j → ∀ h' : Int, i + f ≤ h' → h' ≤ j + f → ((∀ (t : Nat) e e', (tr_J c i j h dp)[t]? = some e → (tr_J c (i + f) (j + f) h' dp)[t]? = some e' → tq_sp c e + f = tq_sp c e' ∧ e.2.2.1 + f = e'.2.2.1) ↔ (h' = h + f ∧ al_ok c f i j h)) := by
  refine tr_ind c (fun i dp h' a1 a2 => ?_) (fun i j h dp hij a b p1 p2 h' a1 a2 => ?_)
  · refine ⟨fun _ => ⟨by omega, al_1 c f i i⟩, fun _ t e e' ht => ?_⟩
    rw [tr_J_1] at ht
    simp at ht
  · have s1 := dp_sp_in (c := c) (h := h) hij
    have l1 := tr_hl_in (c := c) hij a
    have r1 := tr_hr_in (c := c) hij b
    have hij' : i + f < j + f := by omega
    have s2 := dp_sp_in (c := c) (h := h') hij'
    have l2 := tr_hl_in (c := c) hij' a1
    have r2 := tr_hr_in (c := c) hij' a2
    have nL := tr_J_len c i (dp_sp c i j h) (tr_hl c i j h) (dp + 1) l1.1 l1.2
    have nL' := tr_J_len c (i + f) (dp_sp c (i + f) (j + f) h') (tr_hl c (i + f) (j + f) h') (dp + 1) l2.1 l2.2
    rw [tr_J_s (c := c) (h := h) (dp := dp) hij, tr_J_s (c := c) (h := h') (dp := dp) hij']
    constructor
    · intro H
      obtain ⟨hs, hh⟩ := H 0 _ _ rfl rfl
      have hs' : dp_sp c i j h + f = dp_sp c (i + f) (j + f) h' := hs
      have hh' : h' = h + f := hh.symm
      subst hh'
      have q1 := (p1 (tr_hl c (i + f) (j + f) (h + f)) (by omega) (by omega)).mp (fun t e e' ht ht' => by
        obtain ⟨wl, _⟩ := List.getElem?_eq_some_iff.mp ht
        refine H (t + 1) e e' ?_ ?_
        · rw [List.getElem?_cons_succ, List.getElem?_append_left wl]
          exact ht
        · rw [List.getElem?_cons_succ, List.getElem?_append_left (by omega), ← hs']
          exact ht')
      have q2 := (p2 (tr_hr c (i + f) (j + f) (h + f)) (by omega) (by omega)).mp (fun t e e' ht ht' => by
        refine H (t + 1 + (dp_sp c i j h - i).toNat) e e' ?_ ?_
        · rw [show t + 1 + (dp_sp c i j h - i).toNat = (t + (dp_sp c i j h - i).toNat) + 1 by omega, List.getElem?_cons_succ, List.getElem?_append_right (by omega), nL, show t + (dp_sp c i j h - i).toNat - (dp_sp c i j h - i).toNat = t by omega]
          exact ht
        · rw [show t + 1 + (dp_sp c i j h - i).toNat = (t + (dp_sp c i j h - i).toNat) + 1 by omega, List.getElem?_cons_succ, List.getElem?_append_right (by omega), nL', ← hs', show t + (dp_sp c i j h - i).toNat - (dp_sp c i j h + f - (i + f)).toNat = t by omega, show dp_sp c i j h + f + 1 = dp_sp c i j h + 1 + f by omega]
          exact ht')
      have hu : dp_un c i j h + f = dp_un c (i + f) (j + f) (h + f) := by
        have b1 := q1.1
        have b2 := q2.1
        unfold tr_hl at b1
        unfold tr_hr at b2
        rw [← hs'] at b1 b2
        by_cases g : h ≤ dp_sp c i j h
        · rw [if_pos g, if_pos (by omega)] at b2
          exact b2.symm
        · rw [if_neg g, if_neg (by omega)] at b1
          exact b1.symm
      exact ⟨rfl, (al_s hij).mpr ⟨⟨hs', hu⟩, q1.2, q2.2⟩⟩
    · rintro ⟨rfl, ok⟩ t e e' ht ht'
      obtain ⟨⟨hs, hu⟩, ok1, ok2⟩ := (al_s hij).mp ok
      have hs' : dp_sp c i j h + f = dp_sp c (i + f) (j + f) (h + f) := hs
      have hu' : dp_un c i j h + f = dp_un c (i + f) (j + f) (h + f) := hu
      obtain ⟨el, er⟩ := al_hlr hs' hu'
      have q1 := (p1 (tr_hl c (i + f) (j + f) (h + f)) (by omega) (by omega)).mpr ⟨el, ok1⟩
      have q2 := (p2 (tr_hr c (i + f) (j + f) (h + f)) (by omega) (by omega)).mpr ⟨er, ok2⟩
      cases t with
      | zero =>
        simp only [List.getElem?_cons_zero, Option.some.injEq] at ht ht'
        subst ht; subst ht'
        exact ⟨hs', rfl⟩
      | succ t =>
        rw [List.getElem?_cons_succ] at ht ht'
        by_cases g : t < (tr_J c i (dp_sp c i j h) (tr_hl c i j h) (dp + 1)).length
        · rw [List.getElem?_append_left g] at ht
          rw [List.getElem?_append_left (by omega), ← hs'] at ht'
          exact q1 t e e' ht ht'
        · rw [List.getElem?_append_right (by omega)] at ht
          rw [List.getElem?_append_right (by omega), nL', ← hs', show (dp_sp c i j h + f - (i + f)).toNat = (dp_sp c i j h - i).toNat by omega, ← nL, show dp_sp c i j h + f + 1 = dp_sp c i j h + 1 + f by omega] at ht'
          exact q2 _ e e' ht ht'
/-! the reference's walk -/
def al_iv (m v : ab_Ob) (T : List (Int × Int × Int × Int)) : Prop := (∀ f, f ≠ 41 → v.1 f = m.1 f) ∧ (∀ f, f < 36 ∨ 39 < f → v.2 f = m.2 f) ∧ (∀ f, (v.2 f).1 = (m.2 f).1) ∧ v.1 41 = T.length ∧ mt_st v T
theorem al_push {m v : ab_Ob} {T : List (Int × Int × Int × Int)} (h : al_iv m v T) (a b k d : Int) : al_iv m (md_go v a b k d) ((a, b, k, d) :: T) := by
  obtain ⟨f1, f2, f3, h41, hT⟩ := h
  refine ⟨fun f g => ?_, fun f g => ?_, fun f => ?_, ?_, ?_, ?_⟩
  · unfold md_go
    rw [hd_pf_ne g]
    exact f1 f g
  · unfold md_go
    rw [hd_pf_2, hd_pa_ne (by omega), hd_pa_ne (by omega), hd_pa_ne (by omega), hd_pa_ne (by omega)]
    exact f2 f g
  · unfold md_go
    rw [hd_pf_2, hd_pa_len, hd_pa_len, hd_pa_len, hd_pa_len]
    exact f3 f
  · unfold md_go
    rw [hd_pf_eq, h41]
    simp
  · unfold mt_op md_go
    rw [← h41]
    simp [ab_pf, ab_pa, ab_ua, ab_ui]
  · refine mt_st_congr (v := v) (T.length : Int) (by omega) (fun p p0 p1 => ?_) hT
    unfold md_go
    have : p ≠ v.1 41 := by omega
    simp [ab_pf, ab_pa, ab_ua, ab_ui, this]
theorem al_pop {m v : ab_Ob} {e : Int × Int × Int × Int} {T : List (Int × Int × Int × Int)} (h : al_iv m v (e :: T)) : al_iv m (ab_pf v 41 (v.1 41 - 1)) T ∧ mt_op v (v.1 41 - 1) e := by
  obtain ⟨f1, f2, f3, h41, hT1, hT2⟩ := h
  simp only [List.length_cons] at h41
  push_cast at h41
  have e1 : v.1 41 - 1 = (T.length : Int) := by omega
  refine ⟨⟨fun f g => by rw [hd_pf_ne g]; exact f1 f g, f2, f3, by rw [hd_pf_eq]; exact e1, mt_st_congr (v := v) (T.length : Int) (by omega) (fun p p0 p1 => ⟨rfl, rfl, rfl, rfl⟩) hT2⟩, ?_⟩
  rw [e1]
  exact hT1
def al_y (b : ab_Ob) (i j n : Int) : Prop := dp_H (sc_br b) j (j + n - 1) = dp_H (sc_br b) i (i + n - 1) + (j - i) ∧ al_ok (sc_br b) (j - i) i (i + n - 1) (dp_H (sc_br b) i (i + n - 1))
theorem c9_areAlike (d : Nat) {b m : ab_Ob} (h : mi_I b m) {i j n : Int} (hp : an_sps b i j n) : ab_Ct (d + 3) 0 0 mX9_areAlike [ab_O 0, ab_I i, ab_I j, ab_I n] [m] (fun rv w => (∃ v, w = [v] ∧ (∀ f, f ≠ 41 → v.1 f = m.1 f) ∧ (∀ f, f < 36 ∨ 39 < f → v.2 f = m.2 f) ∧ ∀ f, (v.2 f).1 = (m.2 f).1) ∧ ((rv = some (ab_I 1) ∧ al_y b i j n) ∨ (rv = some (ab_I 0) ∧ ¬ al_y b i j n))) := by
  obtain ⟨i1, hb, hdd, n1, hpm, hq, hT⟩ := id h
  have hn := hb.2.1
  unfold an_sps at hp
  obtain ⟨n3, n25, n26, n27, n28, n29, n30⟩ := hT.1
  obtain ⟨o1, o2, o3, o4, o5, o6, o7, o8, o9⟩ := id hT.2.1
  have hH := dp_H_in (c := sc_br b) (i := i) (j := i + n - 1) (by omega)
  have hH' := dp_H_in (c := sc_br b) (i := j) (j := j + n - 1) (by omega)
  refine ab_ct kX9_areAlike rfl rfl (fun x hx => ?_)
  have leaf : ∀ (v : ab_Ob) (T : List (Int × Int × Int × Int)) (z : Int), al_iv m v T → ((z = 1 ∧ al_y b i j n) ∨ (z = 0 ∧ ¬ al_y b i j n)) → ab_J x 270 [none, none, none, none, some (ab_I z), none, none, none, none, none, none, none] [] [v] 0 0 := fun v T z hv hz => by
    refine vX9_areAlike_270 hx _ v 0 0 ⟨by omega, ⟨⟨_, rfl⟩, _, _, rfl, rfl⟩, ⟨v, rfl, hv.1, hv.2.1, hv.2.2.1⟩, ?_⟩
    rcases hz with ⟨e, g⟩ | ⟨e, g⟩
    · subst e; exact Or.inl ⟨rfl, g⟩
    · subst e; exact Or.inr ⟨rfl, g⟩
  have hI : ∀ {v T}, al_iv m v T → mi_I b v := fun {v T} hv => mi_I_of (fun f hf => hv.1 f (by omega)) (fun f hf => hv.2.1 f (by omega)) hv.2.2.1 h
  have key : ∀ (q : Nat) (v : ab_Ob) (T : List (Int × Int × Int × Int)), (mt_fl (sc_br b) T).length = q → q ≤ 47 → al_iv m v T → (∀ e ∈ T, i ≤ e.1 ∧ e.1 ≤ e.2.2.1 ∧ e.2.2.1 ≤ e.2.1 ∧ e.2.1 ≤ i + n - 1) → (al_y b i j n ↔ ∀ e ∈ T, al_ok (sc_br b) (j - i) e.1 e.2.1 e.2.2.1) → ab_J x 60 [some (ab_O 0), some (ab_I i), some (ab_I j), none, some (ab_I 1), none, none, none, none, none, none, none] [] [v] 0 0 := by
    intro q
    induction q with
    | zero =>
      intro v T hq0 hq1 hv hTb hy
      have hTl := mt_fl_len (sc_br b) T (fun e he => ⟨(hTb e he).2.1, (hTb e he).2.2.1⟩)
      have eT : T = [] := List.length_eq_zero_iff.mp (by omega)
      subst eT
      have e41 := hv.2.2.2.1
      refine vX9_areAlike_60 hx _ _ _ v 0 0 ⟨fun g => absurd g (by decide), fun _ => ⟨fun _ => leaf v [] 1 hv (Or.inl ⟨rfl, hy.mpr (fun e he => by simp at he)⟩), fun g => absurd (by rw [e41]; simp) g⟩⟩
    | succ q ih =>
      intro v T hq0 hq1 hv hTb hy
      have hTl := mt_fl_len (sc_br b) T (fun e he => ⟨(hTb e he).2.1, (hTb e he).2.2.1⟩)
      cases T with
      | nil => simp [mt_fl] at hq0
      | cons e T =>
        obtain ⟨a, z, k, dp⟩ := e
        have eb := hTb _ List.mem_cons_self
        dsimp only at eb
        have hv41 := hv.2.2.2.1
        obtain ⟨hv', ⟨r1', r2', r3', r4⟩⟩ := al_pop hv
        have r1 : (v.2 36).2 (v.1 41 - 1) = a := r1'
        have r2 : (v.2 37).2 (v.1 41 - 1) = z := r2'
        have r3 : (v.2 38).2 (v.1 41 - 1) = k := r3'
        simp only [List.length_cons] at hTl hv41
        push_cast at hv41
        have vI := hI hv
        have vT := vI.2.2.2.2.2.2
        obtain ⟨w3, w25, w26, w27, w28, w29, w30⟩ := vT.1
        obtain ⟨x1, x2, x3, x4, x5, x6, x7, x8, x9⟩ := id vT.2.1
        have qfl : mt_fl (sc_br b) ((a, z, k, dp) :: T) = tr_Q (sc_br b) a z k dp ++ mt_fl (sc_br b) T := rfl
        rw [qfl, List.length_append] at hq0
        have lQ := tr_Q_len (sc_br b) a z k dp eb.2.1 eb.2.2.1
        have Tl2 := mt_fl_len (sc_br b) T (fun e he => ⟨(hTb e (List.mem_cons_of_mem _ he)).2.1, (hTb e (List.mem_cons_of_mem _ he)).2.2.1⟩)
        refine vX9_areAlike_60 hx _ _ _ v 0 0 ⟨fun g => absurd g (by decide), fun _ => ⟨fun g => absurd g (by omega), fun _ => ?_⟩⟩
        rw [r1, r2, r3]
        refine ⟨by omega, by omega, by omega, by omega, by omega, fun g => ?_, fun g => ?_⟩
        · have haz : a < z := by omega
          have s1 := dp_sp_in (c := sc_br b) (h := k) haz
          have u1 := dp_un_in (c := sc_br b) (h := k) haz
          have l1 := tr_hl_in (c := sc_br b) haz eb.2.1
          have h1 := tr_hr_in (c := sc_br b) haz eb.2.2.1
          have cu := md_cu_b (i := a) (j := z) (h := k) (by omega) (by omega) (by omega)
          have cu' := md_cu_b (i := a + (j - i)) (j := z + (j - i)) (h := k + (j - i)) (by omega) (by omega) (by omega)
          have ce := vI.2.2.2.2.2.2.2.2.1 a z k (by omega) (by omega) (by omega) eb.2.1 eb.2.2.1
          have ce' := vI.2.2.2.2.2.2.2.2.1 (a + (j - i)) (z + (j - i)) (k + (j - i)) (by omega) (by omega) (by omega) (by omega) (by omega)
          have c28 : (v.2 28).2 (md_cu a z k) = dp_sp (sc_br b) a z k := by rw [ce.2.1, if_pos haz]
          have c29 : (v.2 29).2 (md_cu a z k) = dp_un (sc_br b) a z k := by rw [ce.2.2.1, if_pos haz]
          have d28 : (v.2 28).2 (md_cu (a + (j - i)) (z + (j - i)) (k + (j - i))) = dp_sp (sc_br b) (a + (j - i)) (z + (j - i)) (k + (j - i)) := by rw [ce'.2.1, if_pos (by omega)]
          have d29 : (v.2 29).2 (md_cu (a + (j - i)) (z + (j - i)) (k + (j - i))) = dp_un (sc_br b) (a + (j - i)) (z + (j - i)) (k + (j - i)) := by rw [ce'.2.2.1, if_pos (by omega)]
          have s2 := dp_sp_in (c := sc_br b) (i := a + (j - i)) (j := z + (j - i)) (h := k + (j - i)) (by omega)
          have ub : a ≤ dp_un (sc_br b) a z k ∧ dp_un (sc_br b) a z k ≤ z := by
            by_cases g : k ≤ dp_sp (sc_br b) a z k
            · have := u1.1 g; omega
            · have := u1.2 g; omega
          -- both parts wait
          have two : ∀ (t0 : Int), ((t0 = 1 ∧ al_P (sc_br b) (j - i) (a, z, k, 0)) ∨ (t0 = 0 ∧ ¬ al_P (sc_br b) (j - i) (a, z, k, 0))) → ab_J x 217 [some (ab_O 0), some (ab_I i), some (ab_I j), none, none, some (ab_I a), some (ab_I z), some (ab_I k), none, some (ab_I (dp_sp (sc_br b) a z k)), some (ab_I (dp_un (sc_br b) a z k)), none] [ab_I t0] [ab_pf v 41 (v.1 41 - 1)] 0 0 := fun t0 ht0 => by
            have go238 : ab_J x 238 [some (ab_O 0), some (ab_I i), some (ab_I j), none, some (ab_I t0), none, some (ab_I z), some (ab_I k), none, some (ab_I (dp_sp (sc_br b) a z k)), some (ab_I (dp_un (sc_br b) a z k)), none] [ab_I (tr_hl (sc_br b) a z k), ab_I (dp_sp (sc_br b) a z k), ab_I a, ab_O 0] [ab_pf v 41 (v.1 41 - 1)] 0 0 := by
              have e41 : (ab_pf v 41 (v.1 41 - 1)).1 41 = (T.length : Int) := hv'.2.2.2.1
              have v2' : md_len2 (ab_pf v 41 (v.1 41 - 1)) := vT.2.1
              refine vX9_areAlike_238 hx _ _ _ _ _ _ _ _ _ _ _ 0 0 (ab_xv1 (c9_goes (d + 1) _ v2' (by omega) (by omega) _ _ _ _) (fun v2 hv2 => ?_))
              subst hv2
              have p1 := al_push hv' a (dp_sp (sc_br b) a z k) (tr_hl (sc_br b) a z k) j
              have go263 : ab_J x 263 [some (ab_O 0), some (ab_I i), some (ab_I j), none, some (ab_I t0), none, none, none, none, none, none, none] [ab_I (tr_hr (sc_br b) a z k), ab_I z, ab_I (dp_sp (sc_br b) a z k + 1), ab_O 0] [md_go (ab_pf v 41 (v.1 41 - 1)) a (dp_sp (sc_br b) a z k) (tr_hl (sc_br b) a z k) j] 0 0 := by
                have f41 := p1.2.2.2.1
                simp only [List.length_cons] at f41
                push_cast at f41
                have v3' := (hI p1).2.2.2.2.2.2.2.1
                refine vX9_areAlike_263 hx _ _ _ _ _ _ _ 0 0 (ab_xv1 (c9_goes (d + 1) _ v3' (by omega) (by omega) _ _ _ _) (fun v3 hv3 => ?_))
                subst hv3
                have p2 := al_push p1 (dp_sp (sc_br b) a z k + 1) z (tr_hr (sc_br b) a z k) j
                rcases ht0 with ⟨e0, g0⟩ | ⟨e0, g0⟩
                · subst e0
                  refine ih _ _ ?_ (by omega) p2 (fun e he => ?_) ?_
                  · have q1 : mt_fl (sc_br b) ((dp_sp (sc_br b) a z k + 1, z, tr_hr (sc_br b) a z k, j) :: (a, dp_sp (sc_br b) a z k, tr_hl (sc_br b) a z k, j) :: T) = tr_Q (sc_br b) (dp_sp (sc_br b) a z k + 1) z (tr_hr (sc_br b) a z k) j ++ (tr_Q (sc_br b) a (dp_sp (sc_br b) a z k) (tr_hl (sc_br b) a z k) j ++ mt_fl (sc_br b) T) := rfl
                    have lL := tr_Q_len (sc_br b) a (dp_sp (sc_br b) a z k) (tr_hl (sc_br b) a z k) j l1.1 l1.2
                    have lR := tr_Q_len (sc_br b) (dp_sp (sc_br b) a z k + 1) z (tr_hr (sc_br b) a z k) j h1.1 h1.2
                    rw [q1, List.length_append, List.length_append]
                    omega
                  · rw [List.mem_cons, List.mem_cons] at he
                    rcases he with he | he | he
                    · subst he; dsimp only; omega
                    · subst he; dsimp only; omega
                    · exact hTb e (List.mem_cons_of_mem _ he)
                  · rw [hy]
                    constructor
                    · intro H e he
                      have top := (al_s haz).mp (H _ List.mem_cons_self)
                      rw [List.mem_cons, List.mem_cons] at he
                      rcases he with he | he | he
                      · subst he; exact top.2.2
                      · subst he; exact top.2.1
                      · exact H e (List.mem_cons_of_mem _ he)
                    · intro H e he
                      rcases List.mem_cons.mp he with he | he
                      · subst he
                        exact (al_s haz).mpr ⟨g0, H _ (List.mem_cons_of_mem _ List.mem_cons_self), H _ List.mem_cons_self⟩
                      · exact H e (List.mem_cons_of_mem _ (List.mem_cons_of_mem _ he))
                · subst e0
                  exact vX9_areAlike_60 hx _ _ _ _ 0 0 ⟨fun _ => leaf _ _ 0 p2 (Or.inr ⟨rfl, fun y => g0 ((al_s haz).mp (hy.mp y _ List.mem_cons_self)).1⟩), fun g => absurd rfl g⟩
              refine ⟨by omega, fun g => ?_, fun g => ?_⟩
              · have : tr_hr (sc_br b) a z k = k := if_neg (by omega)
                rw [this] at go263
                exact go263
              · have : tr_hr (sc_br b) a z k = dp_un (sc_br b) a z k := if_pos (by omega)
                rw [this] at go263
                exact go263
            refine vX9_areAlike_217 hx _ _ _ _ _ _ _ _ _ 0 0 ⟨fun g => ?_, fun g => ?_⟩
            · have : tr_hl (sc_br b) a z k = dp_un (sc_br b) a z k := if_neg (by omega)
              rw [this] at go238
              exact go238
            · have : tr_hl (sc_br b) a z k = k := if_pos (by omega)
              rw [this] at go238
              exact go238
          refine ab_x1 (c9_cube (d + 1) (by omega) (by omega) (by omega)) ⟨by omega, ab_x1 (c9_cube (d + 1) (by omega) (by omega) (by omega)) ⟨by omega, by omega, by omega, by omega, ab_x1 (c9_cube (d + 1) (by omega) (by omega) (by omega)) ?_⟩⟩
          rw [c28, c29, d28, d29]
          refine ⟨by omega, by omega, fun g1 => vX9_areAlike_216 hx _ _ _ _ _ _ _ _ 0 0 (two 0 (Or.inr ⟨rfl, fun y => g1 y.1⟩)), fun g1 => ⟨by omega, by omega, fun g2 => vX9_areAlike_216 hx _ _ _ _ _ _ _ _ 0 0 (two 0 (Or.inr ⟨rfl, fun y => g2 y.2⟩)), fun g2 => two 1 (Or.inl ⟨rfl, g1, g2⟩)⟩⟩
        · subst g
          refine ih _ T (by omega) (by omega) hv' (fun e he => hTb e (List.mem_cons_of_mem _ he)) ?_
          rw [hy]
          constructor
          · intro H e he
            exact H e (List.mem_cons_of_mem _ he)
          · intro H e he
            rcases List.mem_cons.mp he with he | he
            · subst he; exact al_1 _ _ _ _
            · exact H e he
  have hv0 : al_iv m (ab_pf m 41 0) [] := ⟨fun f g => hd_pf_ne g, fun _ _ => rfl, fun _ => rfl, rfl, trivial⟩
  have hI0 := hI hv0
  refine vX9_areAlike_0 hx i j n m 0 0 ⟨by omega, by omega, by omega, by omega, ab_x1 (c9_headOf' d hI0 (by omega) (by omega) (by omega)) (ab_xv1 (c9_goes (d + 1) (ab_pf m 41 0) hT.2.1 (by show (0 : Int) ≤ 0; omega) (by show (0 : Int) < 48; omega) _ _ _ _) (fun v4 hv4 => ?_))⟩
  subst hv4
  have p1 := al_push hv0 i (i + n - 1) (dp_H (sc_br b) i (i + n - 1)) j
  refine ⟨by omega, by omega, ab_x1 (c9_headOf' d (hI p1) (by omega) (by omega) (by omega)) ⟨by omega, by omega, by omega, ab_x1 (c9_headOf' d (hI p1) (by omega) (by omega) (by omega)) ⟨by omega, fun g => ?_, fun g => ?_⟩⟩⟩
  · refine vX9_areAlike_58 hx _ _ _ _ 0 0 (vX9_areAlike_60 hx _ _ _ _ 0 0 ⟨fun _ => leaf _ _ 0 p1 (Or.inr ⟨rfl, fun y => ?_⟩), fun g => absurd rfl g⟩)
    have := y.1
    omega
  · refine vX9_areAlike_58 hx _ _ _ _ 0 0 (key _ _ _ rfl ?_ p1 (fun e he => ?_) ?_)
    · have l := tr_Q_len (sc_br b) i (i + n - 1) (dp_H (sc_br b) i (i + n - 1)) j hH.1 hH.2
      have q1 : mt_fl (sc_br b) [(i, i + n - 1, dp_H (sc_br b) i (i + n - 1), j)] = tr_Q (sc_br b) i (i + n - 1) (dp_H (sc_br b) i (i + n - 1)) j ++ [] := rfl
      rw [q1, List.append_nil]
      omega
    · rw [List.mem_singleton] at he
      subst he
      dsimp only
      omega
    · constructor
      · intro y e he
        rw [List.mem_singleton] at he
        subst he
        exact y.2
      · intro y
        exact ⟨by omega, y _ (List.mem_singleton.mpr rfl)⟩
def an_alike (b : ab_Ob) (i j n : Int) (RT : Int × Int) : Prop := (¬ an_sps b i j n ∧ RT = (-1, 1)) ∨ (an_sps b i j n ∧ ((al_y b i j n ∧ RT = (1, 0)) ∨ (¬ al_y b i j n ∧ RT = (0, 0))))
theorem c9_alike (d : Nat) {b m : ab_Ob} (h : mi_S b m) (i j n : Int) {RT : Int × Int} (hRT : an_alike b i j n RT) : ab_Ct (d + 4) 0 0 mX9_alike [ab_O 0, ab_I i, ab_I j, ab_I n] [m] (ab_Af b m RT) := by
  refine ab_ct kX9_alike rfl rfl (fun x hx => vX9_alike_0 hx i j n m 0 0 (ab_xb (c9_areSpans (d + 2) (mi_S_0 h) i j n) (fun p => ⟨fun g => absurd g (by decide), fun _ => ?_⟩) (fun p => ⟨fun _ => fs_rf h ?_, fun g => absurd rfl g⟩)))
  · rcases hRT with ⟨g, _⟩ | ⟨_, hRT⟩
    · exact absurd p g
    have hI := mi_S_I h (by unfold an_sps at p; omega)
    refine ⟨_, c9_areAlike d (mi_I_0 hI) p, fun r v hr => ?_⟩
    obtain ⟨⟨v', ev, f1, f2, f3⟩, hy⟩ := hr
    cases ev
    have vI : mi_I b v := mi_I_of (m := m) (fun f hf => by rw [f1 f (by omega)]; exact hd_pf_ne (by omega)) (fun f hf => f2 f (by omega)) f3 hI
    have af : ∀ z : Int, md_af b m (ab_pf (ab_pf v 1 0) 2 (-1)) 0 := fun _ => ⟨⟨fun f g0 g1 g2 g40 g41 => by rw [hd_pf_ne g2, hd_pf_ne g1, f1 f g41]; exact hd_pf_ne g0, fun f hf => f2 f (by omega), f3⟩, Or.inr vI, by show v.1 0 = 0; rw [f1 0 (by decide)]; rfl, rfl, rfl⟩
    have lf : ∀ z : Int, (z, (0 : Int)) = RT → ∃ Q : Option ab_V → List ab_Ob → Prop, ab_Ct (d + 3) 0 0 mX9_good [ab_O 0, ab_I z] [v] Q ∧ ∀ (r : Int) (w : ab_Ob), Q (some (ab_I r)) [w] → (((∃ y : Int, some (ab_I r) = some (ab_I y)) ∧ ab_shw [true] [m] [w]) ∧ (some (ab_I r) = some (ab_I RT.1) ∧ ∃ v', [w] = [v'] ∧ md_af b m v' RT.2)) := fun z hz => ⟨_, c9_good (d + 2) v z, fun r w hw => by
      obtain ⟨e1, e2⟩ := hw
      cases e1
      cases e2
      subst hz
      exact ⟨⟨⟨_, rfl⟩, _, _, rfl, rfl⟩, rfl, _, rfl, af 0⟩⟩
    rcases hy with ⟨er, y⟩ | ⟨er, y⟩
    · cases er
      refine ⟨fun g => absurd g (by decide), fun _ => lf 1 ?_⟩
      rcases hRT with ⟨_, e⟩ | ⟨g, _⟩
      · exact e.symm
      · exact absurd y g
    · cases er
      refine ⟨fun _ => lf 0 ?_, fun g => absurd rfl g⟩
      rcases hRT with ⟨g, _⟩ | ⟨_, e⟩
      · exact absurd g y
      · exact e.symm
  · rcases hRT with ⟨_, e⟩ | ⟨g, _⟩
    · exact e.symm
    · exact absurd g p
