/-! THE LAW: rows for its script, which is the string of number 12 in the context -/
section
variable {x : ab_Cx} {pc : Nat} {lv : List (Option ab_V)} {st : List ab_V} {ws : List ab_Ob} {kc ks : Nat}
theorem lw_ok32 (y : Int32) : ab_okk 0 y.toInt := ⟨Int32.le_toInt y, by have := Int32.toInt_lt y; omega⟩
theorem lw_sld (X : ab_X x) {b L : Nat} {xs : Nat → Int32} (hE : (ab_cE x).2.2.1 12 = b) (hX : va_X b L xs (ab_cs x) (ab_cs x).heap) (hbl : b < (ab_cs x).heap.size) (hbA : ¬ ab_cA x b) {i : Int} (hi : 0 ≤ i ∧ i < L) (hd : ab_dec x pc .iaload 1) (k : ab_J x (pc + 1) lv (ab_I (xs i.toNat).toInt :: st) ws kc ks) : ab_J x pc lv (ab_I i :: ab_S 12 :: st) ws kc ks := by
  intro ad H locs ls h1 h2 h3 h4 h5 h6 h7 h8 h9
  have hi0 : ab_okk 0 i := h6 _ List.mem_cons_self
  have r := k ad H locs ls h1 h2 h3 h4 h5 (ab_okc (v := .inl _) (lw_ok32 _) (ab_okt (ab_okt h6))) h7 h8 h9
  have e : Int32.ofInt (xs i.toNat).toInt = xs i.toNat := Int32.ofInt_toInt _
  have r2 : ab_Wx x H locs kc ks (F0 (ab_cm x) (pc + 1) ls (.int (xs i.toNat) :: st.map (ab_cv ad (ab_cE x).2.2.1))) := by
    rw [← e]
    exact r
  show ab_Wx x H locs kc ks (F0 (ab_cm x) pc ls (.int (Int32.ofInt i) :: .ref ((ab_cE x).2.2.1 12) :: st.map (ab_cv ad (ab_cE x).2.2.1)))
  rw [hE]
  refine va_sld X.ex X.cd hX hbl hbA h4 (i := Int32.ofInt i) (ab_in32 (n := (L : Int)) hi0 hi.1 hi.2) hd ?_
  rw [ab_cl32 hi0]
  exact r2
theorem lw_slen (X : ab_X x) {b L : Nat} {xs : Nat → Int32} (hE : (ab_cE x).2.2.1 12 = b) (hX : va_X b L xs (ab_cs x) (ab_cs x).heap) (hbl : b < (ab_cs x).heap.size) (hbA : ¬ ab_cA x b) (hL : L ≤ 3072) (hd : ab_dec x pc .arraylength 1) (k : ab_J x (pc + 1) lv (ab_I L :: st) ws kc ks) : ab_J x pc lv (ab_S 12 :: st) ws kc ks := by
  intro ad H locs ls h1 h2 h3 h4 h5 h6 h7 h8 h9
  have r := k ad H locs ls h1 h2 h3 h4 h5 (ab_okc (v := .inl _) ⟨by omega, by omega⟩ (ab_okt h6)) h7 h8 h9
  show ab_Wx x H locs kc ks (F0 (ab_cm x) pc ls (.ref ((ab_cE x).2.2.1 12) :: st.map (ab_cv ad (ab_cE x).2.2.1)))
  rw [hE]
  refine va_slen X.ex X.cd hX hbl hbA h4 hd ?_
  rw [← Int32.ofInt_eq_ofNat]
  exact r
end
