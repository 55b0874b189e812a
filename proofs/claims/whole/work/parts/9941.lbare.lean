/-! BARE: the law's own, which catches -/
/-- the context's long[1] -/
def bl_E (E : ab_E) : Prop := E.1.1 10 = E.2.1 5 ∧ E.1.2 10 0 = 0
section
variable {x : ab_Cx} {pc : Nat} {lv : List (Option ab_V)} {st : List ab_V} {ws : List ab_Ob} {kc ks : Nat}
theorem bl_cell {E : ab_E} {U : State} {ad : Nat → Nat → Nat} {o : Nat} {ob : ab_Ob} {H : Heap} (hE : bl_E E) (hK : va_K E.1 vwCl (ab_tys E) U) (h : ab_ob E ad o 10 ob H) : ∃ cell : Cell, H[ad o 0]? = some cell ∧ cell.vm = .none ∧ cell.cls = E.1.1 10 ∧ U.isArrayOf cell .long ∧ cell.slots[0]? = some (.long (Int64.ofInt (ob.1 0))) := by
  obtain ⟨⟨cell, q1, q2, q3, q4⟩, _, _⟩ := h
  have h5 := (ab_Karr hK (k := 5) ⟨by decide, by decide⟩).1 0 (fun _ => .null)
  refine ⟨cell, q1, q3, q2, ⟨fun k h => (by rw [q3] at h; cases h), ?_⟩, ?_⟩
  · rw [q2, hE.1]
    exact h5.2
  · have := q4 0 (by decide)
    rw [hE.2] at this
    exact this
theorem bl_lald (X : ab_X x) (hE : bl_E (ab_cE x)) {o : Nat} {ob : ab_Ob} (hG : ab_at (ab_G (ab_cM x)) o = some 10) (hob : ab_at ws o = some ob) (hd : ab_dec x pc .laload 1) (k : ab_J x (pc + 1) lv (ab_L (ob.1 0) :: st) ws kc ks) : ab_J x pc lv (ab_I 0 :: ab_O o :: st) ws kc ks := by
  intro ad H locs ls h1 h2 h3 h4 h5 h6 h7 h8 h9
  have h0 := h2.2 o 10 ob hG hob
  obtain ⟨cell, c1, c2, c3, c4, c5⟩ := bl_cell hE X.K.1 h0
  have hz : ab_okk 2 (ob.1 0) := (h0.2.2 0).1 (fun h => absurd h.1 (by decide)) (by decide)
  have hs : 0 < cell.slots.size := (Array.getElem?_eq_some_iff.mp c5).1
  refine W.lald (v := .long (Int64.ofInt (ob.1 0))) X.ex X.cd c1 c4 (by rw [c2]; exact fun h => by cases h) (j := Int32.ofInt 0) ?_ c5 rfl rfl hd (k ad H locs ls h1 h2 h3 h4 h5 (ab_okc (v := ab_L _) hz (ab_okt (ab_okt h6))) h7 h8 h9)
  rintro (h | h)
  · exact absurd h (by decide)
  · have e : (Int32.ofInt 0).toNatClampNeg = 0 := by decide
    rw [e] at h
    omega
theorem bl_last (X : ab_X x) (hE : bl_E (ab_cE x)) {o : Nat} {ob : ab_Ob} {z : Int} (hG : ab_at (ab_G (ab_cM x)) o = some 10) (hob : ab_at ws o = some ob) (hd : ab_dec x pc .lastore 1) (k : ab_J x (pc + 1) lv st (ab_set ws o (ab_pf ob 0 z)) kc ks) : ab_J x pc lv (ab_L z :: ab_I 0 :: ab_O o :: st) ws kc ks := by
  intro ad H locs ls h1 h2 h3 h4 h5 h6 h7 h8 h9
  have h0 := h2.2 o 10 ob hG hob
  obtain ⟨cell, c1, c2, c3, c4, c5⟩ := bl_cell hE X.K.1 h0
  have hz : ab_okk 2 z := h6 _ List.mem_cons_self
  have hs : 0 < cell.slots.size := (Array.getElem?_eq_some_iff.mp c5).1
  refine W.last X.ex X.cd c1 c4 (by rw [c2]; exact fun h => by cases h) (j := Int32.ofInt 0) (x := Int64.ofInt z) ?_ rfl rfl hd fun H' e1 e2 e3 => ?_
  · rintro (h | h)
    · exact absurd h (by decide)
    · have e : (Int32.ofInt 0).toNatClampNeg = 0 := by decide
      rw [e] at h
      omega
  · have e : (Int32.ofInt 0).toNatClampNeg = 0 := by decide
    rw [e] at e1
    have hap : ∀ a b, a < (ab_lay 10).length → b < (ab_lay 10).length → a ≠ b → ((ab_cE x).1.2 10) a ≠ ((ab_cE x).1.2 10) b := fun a b ha hb hne => by
      have ha : a < 1 := ha
      have hb : b < 1 := hb
      omega
    exact k ad H' _ ls h1 (ab_W_upd h2 h3 hG (ab_sl0 hG) e3 (ab_ob_pf h3 hG h0 (f := 0) (by decide) hap c1 (by rw [hE.2]; exact e1) e3 (by decide) rfl hz)) h3 (h4.put e2 e3 (h3.2 _ _ (ab_sl0 hG))) h5 (ab_okt (ab_okt (ab_okt h6))) h7 h8 h9
end
def bl_G : List Nat := [8, 4, 5, 5, 0, 1, 2, 7, 6, 1, 7, 7, 7, 7, 3, 3, 10]
def yLB : MethodName := ⟨"HeadTreesLaw", "bare", "(LHeadTrees;I[J)I"⟩
def mLB : ab_M := ((yLB, method_3_code, 4, some .int), (bl_G, [], [], true, true, 0), (true, 100, 3))
def bl_ws : List Cond := .codeWith yLB method_3_code 4 (some .int) [(0, 9, 12, 13)] :: ab_gw
theorem dbl_0 : decode (ab_cd mLB) 0 = .ok (.aload_n 2, 1) := by decide +kernel
theorem dbl_1 : decode (ab_cd mLB) 1 = .ok (.iconst 0, 1) := by decide +kernel
theorem dbl_2 : decode (ab_cd mLB) 2 = .ok (.aload_n 0, 1) := by decide +kernel
theorem dbl_3 : decode (ab_cd mLB) 3 = .ok (.iload_n 1, 1) := by decide +kernel
theorem dbl_4 : decode (ab_cd mLB) 4 = .ok (.invokevirtual 7, 3) := by decide +kernel
theorem dbl_7 : decode (ab_cd mLB) 7 = .ok (.i2l, 1) := by decide +kernel
theorem dbl_8 : decode (ab_cd mLB) 8 = .ok (.lastore, 1) := by decide +kernel
theorem dbl_9 : decode (ab_cd mLB) 9 = .ok (.goto 6, 3) := by decide +kernel
theorem dbl_12 : decode (ab_cd mLB) 12 = .ok (.astore_n 3, 1) := by decide +kernel
theorem dbl_13 : decode (ab_cd mLB) 13 = .ok (.iconst 1, 1) := by decide +kernel
theorem dbl_14 : decode (ab_cd mLB) 14 = .ok (.ireturn, 1) := by decide +kernel
theorem dbl_15 : decode (ab_cd mLB) 15 = .ok (.iconst 0, 1) := by decide +kernel
theorem dbl_16 : decode (ab_cd mLB) 16 = .ok (.ireturn, 1) := by decide +kernel
/-- a world and what is behind it: a part of it first, then the rest -/
theorem pre_W {E : ab_E} {ad : Nat → Nat → Nat} {G1 G2 : List Nat} {w1 w2 : List ab_Ob} {H : Heap} (h : ab_W E ad (G1 ++ G2) (w1 ++ w2) H) (hl : w1.length = G1.length) : ab_W E ad G1 w1 H ∧ ab_W E (fun o f => ad (o + G1.length) f) G2 w2 H := by
  have a1 : ∀ {α : Type} {a b : List α} {o : Nat} {v : α}, ab_at a o = some v → ab_at (a ++ b) o = some v := fun {α a b o v} h => by
    rw [ab_at_eq] at h ⊢
    rw [List.getElem?_append_left (List.getElem?_eq_some_iff.mp h).1]; exact h
  have a2 : ∀ {α : Type} {a b : List α} {o n : Nat} {v : α}, n = a.length → ab_at b o = some v → ab_at (a ++ b) (o + n) = some v := fun {α a b o n v} hn h => by
    subst hn
    rw [ab_at_eq] at h ⊢
    rw [List.getElem?_append_right (by omega), Nat.add_sub_cancel]; exact h
  have hlen : w2.length = G2.length := by have := h.1; simp only [List.length_append] at this; omega
  refine ⟨⟨hl, fun o ci ob g1 g2 => h.2 o ci ob (a1 g1) (a1 g2)⟩, hlen, fun o ci ob g1 g2 => ?_⟩
  refine ab_ob_move (h.2 (o + G1.length) ci ob (a2 rfl g1) (a2 hl.symm g2)) rfl (fun _ _ => rfl) (fun f k _ => ?_)
  show ad (o + k + G1.length) 0 = _
  rw [show o + k + G1.length = o + G1.length + k by omega]
theorem pre_sl1 {G1 G2 : List Nat} {o f : Nat} (h : ab_sl G1 o f) : ab_sl (G1 ++ G2) o f ∧ o < G1.length := by
  have a1 : ∀ {o v : Nat}, ab_at G1 o = some v → ab_at (G1 ++ G2) o = some v ∧ o < G1.length := fun {o v} h => by
    have hl := ab_at_lt h
    rw [ab_at_eq] at h ⊢
    rw [List.getElem?_append_left hl]; exact ⟨h, hl⟩
  match f, h with
  | 0, ⟨c, hc⟩ => exact ⟨⟨c, (a1 hc).1⟩, (a1 hc).2⟩
  | f + 1, ⟨c, hc, ha⟩ => exact ⟨⟨c, (a1 hc).1, ha⟩, (a1 hc).2⟩
/-- behind a call: the callee's world is new, the rest as it was -/
theorem pre_after {E : ab_E} {ad ad1 : Nat → Nat → Nat} {G1 G2 : List Nat} {w1 w2 w1' : List ab_Ob} {A : Nat → Prop} {H H1 : Heap} (h : ab_W E ad (G1 ++ G2) (w1 ++ w2) H) (hl : w1.length = G1.length) (hI : ab_ia ad (G1 ++ G2) A) (hA : ∀ q, ab_rg G1 ad H.size q → A q) (hcl : ab_clB G1.length 0 G1 = true) (h1 : ab_W E ad1 G1 w1' H1) (i1 : ab_ia ad1 G1 (ab_rg G1 ad H.size)) (hk : ∀ q : Nat, q < H.size → ¬ ab_rg G1 ad H.size q → H1[q]? = H[q]?) : ab_W E (ab_app ad1 G1.length (fun o f => ad (o + G1.length) f)) (G1 ++ G2) (w1' ++ w2) H1 ∧ ab_ia (ab_app ad1 G1.length (fun o f => ad (o + G1.length) f)) (G1 ++ G2) A := by
  obtain ⟨p1, p2⟩ := pre_W h hl
  have sl2 : ∀ {o f : Nat}, ab_sl G2 o f → ab_sl (G1 ++ G2) (o + G1.length) f := fun {o f} hs => by
    have a2 : ∀ {o v : Nat}, ab_at G2 o = some v → ab_at (G1 ++ G2) (o + G1.length) = some v := fun {o v} h => by
      rw [ab_at_eq] at h ⊢
      rw [List.getElem?_append_right (by omega), Nat.add_sub_cancel]; exact h
    match f, hs with
    | 0, ⟨c, hc⟩ => exact ⟨c, a2 hc⟩
    | f + 1, ⟨c, hc, ha⟩ => exact ⟨c, a2 hc, ha⟩
  have nr : ∀ {o f : Nat}, ab_sl G2 o f → ¬ ab_rg G1 ad H.size (ad (o + G1.length) f) := fun {o f} hs => by
    rintro (⟨o', f', hs', e⟩ | hq)
    · have := (hI.1 _ _ _ _ (pre_sl1 (G2 := G2) hs').1 (sl2 hs) e).1
      have := (pre_sl1 (G2 := G2) hs').2
      omega
    · have := ab_W_lt h (sl2 hs)
      omega
  have e1 : ∀ o f, o < G1.length → ab_app ad1 G1.length (fun o f => ad (o + G1.length) f) o f = ad1 o f := fun o f h => if_pos h
  have e2 : ∀ o f, G1.length ≤ o → ab_app ad1 G1.length (fun o f => ad (o + G1.length) f) o f = ad o f := fun o f h => by
    show (if o < G1.length then ad1 o f else ad (o - G1.length + G1.length) f) = _
    rw [if_neg (by omega), Nat.sub_add_cancel h]
  refine ⟨ab_W_app h1 (ab_W_kept p2 (fun o f hs => hk _ (ab_W_lt h (sl2 hs)) (nr hs))) hcl, fun o f o' f' s1 s2 he => ?_, fun o f s1 => ?_⟩
  · rcases ab_sl_app s1 with ⟨l1, g1⟩ | ⟨l1, g1⟩
    · rcases ab_sl_app s2 with ⟨l2, g2⟩ | ⟨l2, g2⟩
      · rw [e1 _ _ l1, e1 _ _ l2] at he
        exact i1.1 _ _ _ _ g1 g2 he
      · rw [e1 _ _ l1, e2 _ _ l2] at he
        have := nr g2
        rw [Nat.sub_add_cancel l2, ← he] at this
        exact absurd (i1.2 _ _ g1) this
    · rcases ab_sl_app s2 with ⟨l2, g2⟩ | ⟨l2, g2⟩
      · rw [e2 _ _ l1, e1 _ _ l2] at he
        have := nr g1
        rw [Nat.sub_add_cancel l1, he] at this
        exact absurd (i1.2 _ _ g2) this
      · rw [e2 _ _ l1, e2 _ _ l2] at he
        exact hI.1 _ _ _ _ s1 s2 he
  · rcases ab_sl_app s1 with ⟨l1, g1⟩ | ⟨l1, g1⟩
    · rw [e1 _ _ l1]
      exact hA _ (i1.2 _ _ g1)
    · rw [e2 _ _ l1]
      exact hI.2 _ _ s1
