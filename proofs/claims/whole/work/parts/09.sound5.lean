/-! SOUNDNESS, fifth part: arrays, answers, switches, Math -/
def ab_kt : Nat → FieldType
  | 3 => .int
  | 4 => .byte
  | 5 => .long
  | _ => .boolean
theorem ab_Karr {E : ab_E} {U : State} (h : va_K E.1 vwCl (ab_tys E) U) {k : Nat} (hk : ab_arr k) : ArrOfT U (E.2.1 k) (ab_kt k) ∧ va_RA U (E.2.1 k) (ab_kt k) := by
  obtain ⟨h1, h2⟩ := hk
  have : k = 3 ∨ k = 4 ∨ k = 5 ∨ k = 6 := by omega
  rcases this with rfl | rfl | rfl | rfl
  · exact h.2 0 _ rfl
  · exact h.2 1 _ rfl
  · exact h.2 2 _ rfl
  · exact h.2 3 _ rfl
theorem ab_el_upd (k : Nat) (f : Int → Int) (i z : Int) (h0 : 0 ≤ i) : updV (fun j => ab_el k (f j)) i.toNat (ab_el k z) = fun j : Nat => ab_el k (ab_ui f i z j) := by
  funext j
  unfold updV ab_ui
  by_cases h : j = i.toNat
  · subst h
    rw [if_pos rfl, if_pos (by omega)]
  · rw [if_neg h, if_neg (by omega)]
/-- an element of an array has changed -/
theorem ab_ob_pa {E : ab_E} {ad : Nat → Nat → Nat} {G : List Nat} {A : Nat → Prop} {H H' : Heap} {o ci f : Nat} {ob : ab_Ob} {i z : Int} (hI : ab_ia ad G A) (hG : ab_at G o = some ci) (h0 : ab_ob E ad o ci ob H) (ha : ab_arr (ab_kd ci f)) (hi : 0 ≤ i)
    (e1 : H'[ad o (f + 1)]? = some ((ab_ac (E.2.1 (ab_kd ci f)) (ab_kd ci f) (ob.2 f)).setSlot i.toNat (ab_el (ab_kd ci f) z))) (e3 : ∀ q, q ≠ ad o (f + 1) → H'[q]? = H[q]?) (hok : ab_okk (ab_kd ci f) z) : ab_ob E ad o ci (ab_pa ob f i z) H' := by
  obtain ⟨q1, q5, q6⟩ := h0
  refine ⟨?_, fun g hg => ?_, fun g => ⟨fun hn hl => (q6 g).1 hn hl, fun hg => ?_⟩⟩
  · have := q1.kept (e3 _ (fun e => by have := (hI.1 _ _ _ _ (ab_sl0 hG) (ab_slf hG ha) e).2; omega))
    refine this.to fun j _ => ?_
    generalize ab_kd ci j = kd
    match kd with
    | 0 => rfl
    | 1 => rfl
    | 2 => rfl
    | 3 => rfl
    | 4 => rfl
    | 5 => rfl
    | 6 => rfl
    | k + 7 => rfl
  · by_cases hgf : g = f
    · subst hgf
      rw [e1]
      have e : (ab_pa ob g i z).2 g = ((ob.2 g).1, ab_ui (ob.2 g).2 i z) := by simp [ab_pa, ab_ua]
      rw [e]
      unfold ab_ac
      rw [arrV_store]
      dsimp only
      rw [ab_el_upd _ _ _ _ hi]
    · have e : (ab_pa ob f i z).2 g = ob.2 g := by simp [ab_pa, ab_ua, hgf]
      rw [e, e3 _ (fun h => by have := (hI.1 _ _ _ _ (ab_slf hG hg) (ab_slf hG ha) h).2; omega)]
      exact q5 g hg
  · by_cases hgf : g = f
    · subst hgf
      have e : (ab_pa ob g i z).2 g = ((ob.2 g).1, ab_ui (ob.2 g).2 i z) := by simp [ab_pa, ab_ua]
      rw [e]
      obtain ⟨g1, g2, g3⟩ := (q6 g).2 hg
      refine ⟨g1, g2, fun j => ?_⟩
      show ab_okk _ (ab_ui (ob.2 g).2 i z j)
      unfold ab_ui
      split
      · exact hok
      · exact g3 j
    · have e : (ab_pa ob f i z).2 g = ob.2 g := by simp [ab_pa, ab_ua, hgf]
      rw [e]; exact (q6 g).2 hg
section
variable {x : ab_Cx} {pc : Nat} {lv : List (Option ab_V)} {st : List ab_V} {ws : List ab_Ob} {kc ks : Nat}
theorem ab_okk0 {k : Nat} {z : Int} (hk : ab_arr k) (h5 : k ≠ 5) (h : ab_okk k z) : ab_okk 0 z := by
  obtain ⟨h1, h2⟩ := hk
  have : k = 3 ∨ k = 4 ∨ k = 6 := by omega
  rcases this with rfl | rfl | rfl
  · exact h
  · have h : -128 ≤ z ∧ z ≤ 127 := h
    exact ⟨by omega, by omega⟩
  · have h : z = 0 ∨ z = 1 := h
    exact ⟨by omega, by omega⟩
theorem ab_r_iald (X : ab_X x) {i : Int} {q : Nat × Nat} (hd : ab_dec x pc .iaload 1) (k : ab_ald (ab_G (ab_cM x)) ws q.1 q.2 i (ab_isN 3) fun _ z => ab_J x (pc + 1) lv (.inl z :: st) ws kc ks) : ab_J x pc lv (.inl i :: .inr (.inr (.inr (.inl q))) :: st) ws kc ks := by
  unfold ab_ald at k
  split at k
  · rename_i ci ob hG hob
    split at k
    · rename_i hb
      have hk : ab_kd ci q.2 = 3 := ab_beq hb
      intro ad H locs ls h1 h2 h3 h4 h5 h6 h7 h8 h9
      have ha : ab_arr (ab_kd ci q.2) := by rw [hk]; exact ⟨by omega, by omega⟩
      obtain ⟨q1, q5, q6⟩ := h2.2 q.1 ci ob hG hob
      have hi : ab_okk 0 i := h6 _ List.mem_cons_self
      have hc := q5 q.2 ha
      have hA := (ab_Karr X.K.1 ha).1
      have hz := ((q6 q.2).2 ha).2.2 i
      rw [hk] at hc hA hz
      refine W.iald (v := .int (Int32.ofInt ((ob.2 q.2).2 i))) X.ex X.cd hc (hA _ _) (fun q => by cases q) (by unfold ab_ac; rw [arrV_size]; exact ab_in32 hi k.1.1 k.1.2) ?_ rfl rfl hd (k.2 ad H locs ls h1 h2 h3 h4 h5 (ab_okc (v := .inl _) hz (ab_okt (ab_okt h6))) h7 h8 h9)
      rw [ab_cl32 hi]
      unfold ab_ac
      rw [arrV_read _ _ (by have := k.1; omega)]
      have e : ((i.toNat : Nat) : Int) = i := by have := k.1; omega
      rw [e]
      rfl
    · exact k.elim
  · exact k.elim
theorem ab_r_bald (X : ab_X x) {i : Int} {q : Nat × Nat} (hd : ab_dec x pc .baload 1) (k : ab_ald (ab_G (ab_cM x)) ws q.1 q.2 i ab_isB fun _ z => ab_J x (pc + 1) lv (.inl z :: st) ws kc ks) : ab_J x pc lv (.inl i :: .inr (.inr (.inr (.inl q))) :: st) ws kc ks := by
  unfold ab_ald at k
  split at k
  · rename_i ci ob hG hob
    split at k
    · rename_i hb
      have hk : ab_kd ci q.2 = 4 ∨ ab_kd ci q.2 = 6 := by
        unfold ab_isB at hb
        rcases (Bool.or_eq_true _ _).mp hb with h | h
        · exact Or.inl (ab_beq h)
        · exact Or.inr (ab_beq h)
      intro ad H locs ls h1 h2 h3 h4 h5 h6 h7 h8 h9
      have ha : ab_arr (ab_kd ci q.2) := by rcases hk with h | h <;> rw [h] <;> exact ⟨by omega, by omega⟩
      obtain ⟨q1, q5, q6⟩ := h2.2 q.1 ci ob hG hob
      have hi : ab_okk 0 i := h6 _ List.mem_cons_self
      have hc := q5 q.2 ha
      have hA := (ab_Karr X.K.1 ha).1
      have hz := ab_okk0 ha (by omega) (((q6 q.2).2 ha).2.2 i)
      have kk := k.2 ad H locs ls h1 h2 h3 h4 h5 (ab_okc (v := .inl _) hz (ab_okt (ab_okt h6))) h7 h8 h9
      have hv : ∀ (cA : ClassId) (kd : Nat), kd ≠ 5 → (ab_ac cA kd (ob.2 q.2)).slots[(Int32.ofInt i).toNatClampNeg]? = some (.int (Int32.ofInt ((ob.2 q.2).2 i))) := fun cA kd h5' => by
        rw [ab_cl32 hi]
        unfold ab_ac
        rw [arrV_read _ _ (by have := k.1; omega)]
        have e : ((i.toNat : Nat) : Int) = i := by have := k.1; omega
        rw [e]
        simp [ab_el, h5']
      rcases hk with hk | hk
      · rw [hk] at hc hA
        exact W.bald (v := .int (Int32.ofInt ((ob.2 q.2).2 i))) X.ex X.cd hc (hA _ _) (fun q => by cases q) (by unfold ab_ac; rw [arrV_size]; exact ab_in32 hi k.1.1 k.1.2) (hv _ _ (by omega)) rfl rfl hd kk
      · rw [hk] at hc hA
        exact W.zald (v := .int (Int32.ofInt ((ob.2 q.2).2 i))) X.ex X.cd hc (hA _ _) (fun q => by cases q) (by unfold ab_ac; rw [arrV_size]; exact ab_in32 hi k.1.1 k.1.2) (hv _ _ (by omega)) rfl rfl hd kk
    · exact k.elim
  · exact k.elim
theorem ab_r_lald (X : ab_X x) {i : Int} {q : Nat × Nat} (hd : ab_dec x pc .laload 1) (k : ab_ald (ab_G (ab_cM x)) ws q.1 q.2 i (ab_isN 5) fun _ z => ab_J x (pc + 1) lv (.inr (.inl z) :: st) ws kc ks) : ab_J x pc lv (.inl i :: .inr (.inr (.inr (.inl q))) :: st) ws kc ks := by
  unfold ab_ald at k
  split at k
  · rename_i ci ob hG hob
    split at k
    · rename_i hb
      have hk : ab_kd ci q.2 = 5 := ab_beq hb
      intro ad H locs ls h1 h2 h3 h4 h5 h6 h7 h8 h9
      have ha : ab_arr (ab_kd ci q.2) := by rw [hk]; exact ⟨by omega, by omega⟩
      obtain ⟨q1, q5, q6⟩ := h2.2 q.1 ci ob hG hob
      have hi : ab_okk 0 i := h6 _ List.mem_cons_self
      have hc := q5 q.2 ha
      have hA := (ab_Karr X.K.1 ha).1
      have hz := ((q6 q.2).2 ha).2.2 i
      rw [hk] at hc hA hz
      refine W.lald (v := .long (Int64.ofInt ((ob.2 q.2).2 i))) X.ex X.cd hc (hA _ _) (fun q => by cases q) (by unfold ab_ac; rw [arrV_size]; exact ab_in32 hi k.1.1 k.1.2) ?_ rfl rfl hd (k.2 ad H locs ls h1 h2 h3 h4 h5 (ab_okc (v := .inr (.inl _)) hz (ab_okt (ab_okt h6))) h7 h8 h9)
      rw [ab_cl32 hi]
      unfold ab_ac
      rw [arrV_read _ _ (by have := k.1; omega)]
      have e : ((i.toNat : Nat) : Int) = i := by have := k.1; omega
      rw [e]
      rfl
    · exact k.elim
  · exact k.elim
theorem ab_r_iast (X : ab_X x) {i z : Int} {q : Nat × Nat} (hd : ab_dec x pc .iastore 1) (k : ab_ast (ab_G (ab_cM x)) ws q.1 q.2 i (ab_isN 3) fun _ w => ab_J x (pc + 1) lv st (w z) kc ks) : ab_J x pc lv (.inl z :: .inl i :: .inr (.inr (.inr (.inl q))) :: st) ws kc ks := by
  unfold ab_ast at k
  split at k
  · rename_i ci ob hG hob
    split at k
    · rename_i hb
      have hk : ab_kd ci q.2 = 3 := ab_beq hb
      intro ad H locs ls h1 h2 h3 h4 h5 h6 h7 h8 h9
      have ha : ab_arr (ab_kd ci q.2) := by rw [hk]; exact ⟨by omega, by omega⟩
      have h0 := h2.2 q.1 ci ob hG hob
      have hz : ab_okk 0 z := h6 _ List.mem_cons_self
      have hi : ab_okk 0 i := h6 _ (List.mem_cons_of_mem _ List.mem_cons_self)
      have hc := h0.2.1 q.2 ha
      have hA := (ab_Karr X.K.1 ha).1 (ob.2 q.2).1.toNat (fun j => ab_el (ab_kd ci q.2) ((ob.2 q.2).2 j))
      refine W.iast X.ex X.cd hc (by rw [show ab_kt (ab_kd ci q.2) = .int by rw [hk]; rfl] at hA; exact hA) (fun q => by cases q) (by unfold ab_ac; rw [arrV_size]; exact ab_in32 hi k.1.1 k.1.2) rfl rfl hd fun H' e1 e2 e3 => ?_
      rw [ab_cl32 hi] at e1
      have e1' : H'[ad q.1 (q.2 + 1)]? = some ((ab_ac ((ab_cE x).2.1 (ab_kd ci q.2)) (ab_kd ci q.2) (ob.2 q.2)).setSlot i.toNat (ab_el (ab_kd ci q.2) z)) := by rw [e1]; congr 2; rw [hk]; rfl
      exact k.2 ad H' _ ls h1 (ab_W_upd h2 h3 hG (ab_slf hG ha) e3 (ab_ob_pa h3 hG h0 ha k.1.1 e1' e3 (by rw [hk]; exact hz))) h3 (h4.put e2 e3 (h3.2 _ _ (ab_slf hG ha))) h5 (ab_okt (ab_okt (ab_okt h6))) h7 h8 h9
    · exact k.elim
  · exact k.elim
theorem ab_r_last (X : ab_X x) {i z : Int} {q : Nat × Nat} (hd : ab_dec x pc .lastore 1) (k : ab_ast (ab_G (ab_cM x)) ws q.1 q.2 i (ab_isN 5) fun _ w => ab_J x (pc + 1) lv st (w z) kc ks) : ab_J x pc lv (.inr (.inl z) :: .inl i :: .inr (.inr (.inr (.inl q))) :: st) ws kc ks := by
  unfold ab_ast at k
  split at k
  · rename_i ci ob hG hob
    split at k
    · rename_i hb
      have hk : ab_kd ci q.2 = 5 := ab_beq hb
      intro ad H locs ls h1 h2 h3 h4 h5 h6 h7 h8 h9
      have ha : ab_arr (ab_kd ci q.2) := by rw [hk]; exact ⟨by omega, by omega⟩
      have h0 := h2.2 q.1 ci ob hG hob
      have hz : ab_okk 2 z := h6 _ List.mem_cons_self
      have hi : ab_okk 0 i := h6 _ (List.mem_cons_of_mem _ List.mem_cons_self)
      have hc := h0.2.1 q.2 ha
      have hA := (ab_Karr X.K.1 ha).1 (ob.2 q.2).1.toNat (fun j => ab_el (ab_kd ci q.2) ((ob.2 q.2).2 j))
      refine W.last X.ex X.cd hc (by rw [show ab_kt (ab_kd ci q.2) = .long by rw [hk]; rfl] at hA; exact hA) (fun q => by cases q) (by unfold ab_ac; rw [arrV_size]; exact ab_in32 hi k.1.1 k.1.2) rfl rfl hd fun H' e1 e2 e3 => ?_
      rw [ab_cl32 hi] at e1
      have e1' : H'[ad q.1 (q.2 + 1)]? = some ((ab_ac ((ab_cE x).2.1 (ab_kd ci q.2)) (ab_kd ci q.2) (ob.2 q.2)).setSlot i.toNat (ab_el (ab_kd ci q.2) z)) := by rw [e1]; congr 2; rw [hk]; rfl
      exact k.2 ad H' _ ls h1 (ab_W_upd h2 h3 hG (ab_slf hG ha) e3 (ab_ob_pa h3 hG h0 ha k.1.1 e1' e3 (by rw [hk]; exact hz))) h3 (h4.put e2 e3 (h3.2 _ _ (ab_slf hG ha))) h5 (ab_okt (ab_okt (ab_okt h6))) h7 h8 h9
    · exact k.elim
  · exact k.elim
theorem ab_r_bast (X : ab_X x) {i z : Int} {q : Nat × Nat} (hd : ab_dec x pc .bastore 1) (k : ab_ast (ab_G (ab_cM x)) ws q.1 q.2 i ab_isB fun kd w => match kd with | 4 => ab_J x (pc + 1) lv st (w (ab_i8 z)) kc ks | _ => (z = 0 ∨ z = 1) ∧ ab_J x (pc + 1) lv st (w z) kc ks) : ab_J x pc lv (.inl z :: .inl i :: .inr (.inr (.inr (.inl q))) :: st) ws kc ks := by
  unfold ab_ast at k
  split at k
  · rename_i ci ob hG hob
    split at k
    · rename_i hb
      have hk : ab_kd ci q.2 = 4 ∨ ab_kd ci q.2 = 6 := by
        unfold ab_isB at hb
        rcases (Bool.or_eq_true _ _).mp hb with h | h
        · exact Or.inl (ab_beq h)
        · exact Or.inr (ab_beq h)
      intro ad H locs ls h1 h2 h3 h4 h5 h6 h7 h8 h9
      have ha : ab_arr (ab_kd ci q.2) := by rcases hk with h | h <;> rw [h] <;> exact ⟨by omega, by omega⟩
      have h0 := h2.2 q.1 ci ob hG hob
      have hi : ab_okk 0 i := h6 _ (List.mem_cons_of_mem _ List.mem_cons_self)
      have hc := h0.2.1 q.2 ha
      have hA := (ab_Karr X.K.1 ha).1 (ob.2 q.2).1.toNat (fun j => ab_el (ab_kd ci q.2) ((ob.2 q.2).2 j))
      rcases hk with hk | hk
      · have k2 : ab_J x (pc + 1) lv st (ab_set ws q.1 (ab_pa ob q.2 i (ab_i8 z))) kc ks := by have := k.2; rw [hk] at this; exact this
        refine W.bast X.ex X.cd hc (by rw [show ab_kt (ab_kd ci q.2) = .byte by rw [hk]; rfl] at hA; exact hA) (fun q => by cases q) (by unfold ab_ac; rw [arrV_size]; exact ab_in32 hi k.1.1 k.1.2) rfl rfl hd fun H' e1 e2 e3 => ?_
        rw [ab_cl32 hi] at e1
        have e1' : H'[ad q.1 (q.2 + 1)]? = some ((ab_ac ((ab_cE x).2.1 (ab_kd ci q.2)) (ab_kd ci q.2) (ob.2 q.2)).setSlot i.toNat (ab_el (ab_kd ci q.2) (ab_i8 z))) := by
          rw [e1]; congr 2
          have : ab_el (ab_kd ci q.2) (ab_i8 z) = .int (Int32.ofInt (ab_i8 z)) := by rw [hk]; rfl
          rw [this, ← ab_i8_32]
          rfl
        exact k2 ad H' _ ls h1 (ab_W_upd h2 h3 hG (ab_slf hG ha) e3 (ab_ob_pa h3 hG h0 ha k.1.1 e1' e3 (by rw [hk]; exact ab_i8_ok z))) h3 (h4.put e2 e3 (h3.2 _ _ (ab_slf hG ha))) h5 (ab_okt (ab_okt (ab_okt h6))) h7 h8 h9
      · have k2 : (z = 0 ∨ z = 1) ∧ ab_J x (pc + 1) lv st (ab_set ws q.1 (ab_pa ob q.2 i z)) kc ks := by have := k.2; rw [hk] at this; exact this
        refine W.zast X.ex X.cd hc (by rw [show ab_kt (ab_kd ci q.2) = .boolean by rw [hk]; rfl] at hA; exact hA) (fun q => by cases q) (by unfold ab_ac; rw [arrV_size]; exact ab_in32 hi k.1.1 k.1.2) rfl rfl hd fun H' e1 e2 e3 => ?_
        rw [ab_cl32 hi] at e1
        have e1' : H'[ad q.1 (q.2 + 1)]? = some ((ab_ac ((ab_cE x).2.1 (ab_kd ci q.2)) (ab_kd ci q.2) (ob.2 q.2)).setSlot i.toNat (ab_el (ab_kd ci q.2) z)) := by
          rw [e1]; congr 2
          have : ab_el (ab_kd ci q.2) z = .int (Int32.ofInt z) := by rw [hk]; rfl
          rw [this]
          rcases k2.1 with rfl | rfl
          · exact (by decide : narrow .boolean (.int (Int32.ofInt 0)) = .int (Int32.ofInt 0))
          · exact (by decide : narrow .boolean (.int (Int32.ofInt 1)) = .int (Int32.ofInt 1))
        exact k2.2 ad H' _ ls h1 (ab_W_upd h2 h3 hG (ab_slf hG ha) e3 (ab_ob_pa h3 hG h0 ha k.1.1 e1' e3 (by rw [hk]; exact k2.1))) h3 (h4.put e2 e3 (h3.2 _ _ (ab_slf hG ha))) h5 (ab_okt (ab_okt (ab_okt h6))) h7 h8 h9
    · exact k.elim
  · exact k.elim
theorem ab_r_alen (X : ab_X x) {q : Nat × Nat} {ci : Nat} {ob : ab_Ob} (hG : ab_at (ab_G (ab_cM x)) q.1 = some ci) (hob : ab_at ws q.1 = some ob) (ha : ab_arr (ab_kd ci q.2)) (hd : ab_dec x pc .arraylength 1) (k : ab_J x (pc + 1) lv (.inl (ob.2 q.2).1 :: st) ws kc ks) : ab_J x pc lv (.inr (.inr (.inr (.inl q))) :: st) ws kc ks := by
  intro ad H locs ls h1 h2 h3 h4 h5 h6 h7 h8 h9
  have h0 := h2.2 q.1 ci ob hG hob
  have hl := (h0.2.2 q.2).2 ha
  refine W.alen (n := Int32.ofInt (ob.2 q.2).1) X.ex X.cd (h0.2.1 q.2 ha) ((ab_Karr X.K.1 ha).1 _ _) ?_ rfl rfl hd (k ad H locs ls h1 h2 h3 h4 h5 (ab_okc (v := .inl _) ⟨by have := hl.1; omega, hl.2.1⟩ (ab_okt h6)) h7 h8 h9)
  unfold ab_ac
  rw [arrV_size]
  have e : (((ob.2 q.2).1.toNat : Nat) : Int) = (ob.2 q.2).1 := by have := hl.1; omega
  show Int32.ofNat (ob.2 q.2).1.toNat = Int32.ofInt (ob.2 q.2).1
  rw [← Int32.ofInt_eq_ofNat, e]
end
