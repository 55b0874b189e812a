/-! CONSTRUCTORS: an object that is being made, its arrays, the objects inside it -/
def ci_ns : List (String × Nat × MethodName) := [("HeadTrees", 15, yX4_init), ("HeadTrees$Reader", 24, yX5_init), ("HeadTrees", 22, yX5_init), ("HeadTrees", 29, yX0_init), ("HeadTrees", 36, yX1_init), ("HeadTrees", 47, yX2_init), ("HeadTrees", 57, yX7_init), ("HeadTrees", 67, yX6_init), ("HeadTrees$Sway", 11, yX1_init), ("HeadTrees$Sway", 20, yX7_init), ("HeadTrees", 86, yX3_init)]
/-- the links of a nest that its constructors use -/
def ci_N (U : State) : Prop := ∀ q ∈ ci_ns, va_Nw (.methodLinkNest q.1 q.2.1 q.2.2 "HeadTrees") U
theorem ci_N.warm {s U : State} (hW : s.WarmedH U.vm) (h : ci_N s) : ci_N U := fun q hq => va_Nw.warmM hW (h q hq)
theorem ci_N.same {s U : State} (hv : s.vm = U.vm) (h : ci_N s) : ci_N U := fun q hq => va_Nw.same rfl hv (h q hq)
def ci_P (E : ab_E) (h0 ci sz : Nat) : Array Value → State → Prop := va_Pc [.ref h0] (fun U => U.heap.size = sz ∧ t_OB h0 (E.1.1 ci) (ab_lay ci).length (E.1.2 ci) U.heap (fun k => defaultValue (ab_ty ci k)) ∧ ab_K E (fun q => q = h0 ∨ sz ≤ q) U U.heap ∧ ci_N U)
def ci_Q (E : ab_E) (h0 sz : Nat) (G : List Nat) (ws : List ab_Ob) : Array Value → State → Outcome → State → Prop := fun _ st oc t => (oc = .returned none ∧ ∃ ad : Nat → Nat → Nat, ad 0 0 = h0 ∧ ab_W E ad G ws t.heap ∧ ab_ia ad G (fun q => q = h0 ∨ sz ≤ q)) ∧ va_F (fun q => q = h0 ∨ sz ≤ q) st t
/-- what the tables say of a constructor -/
def ci_mok (M : ab_M) : Prop := (.code (ab_nm M) (ab_cd M) 1 none ∈ ab_gw ∧ .initialized (ab_nm M).cls ∈ ab_gw ∧ .instanceMethod (ab_nm M) ∈ ab_gw) ∧ ((ab_nm M).cls ≠ "java/lang/invoke/MethodHandle" ∧ (ab_nm M).cls ≠ "java/lang/invoke/VarHandle" ∧ (parseMethodDescriptor (ab_nm M).desc).map (fun d => d.parameters.length) = some 0) ∧ (ab_nm M).name = "<init>" ∧ ab_ml M = 1 ∧ ab_rt M = none
def ci_mokB (M : ab_M) (p1 p2 p3 : Nat) : Bool := ab_lk (.code (ab_nm M) (ab_cd M) 1 none) p1 && (ab_lk (.initialized (ab_nm M).cls) p2 && (ab_lk (.instanceMethod (ab_nm M)) p3 && (decide ((ab_nm M).cls ≠ "java/lang/invoke/MethodHandle" ∧ (ab_nm M).cls ≠ "java/lang/invoke/VarHandle" ∧ (parseMethodDescriptor (ab_nm M).desc).map (fun d => d.parameters.length) = some 0) && (decide ((ab_nm M).name = "<init>") && (decide (ab_ml M = 1) && (decide (ab_rt M = none) && plainName (ab_nm M).cls))))))
theorem ci_mok_of {M : ab_M} (p1 p2 p3 : Nat) (h : ci_mokB M p1 p2 p3 = true) : ci_mok M ∧ plainName (ab_nm M).cls = true := by
  unfold ci_mokB at h
  simp only [Bool.and_eq_true, decide_eq_true_eq] at h
  obtain ⟨h1, h2, h3, h4, h5, h6, h7, h8⟩ := h
  exact ⟨⟨⟨ab_lk_in h1, ab_lk_in h2, ab_lk_in h3⟩, h4, h5, h6, h7⟩, h8⟩
/-- a constructor makes of a blank object the world so -/
def ci_Ct (d mc ms : Nat) (M : ab_M) (ci : Nat) (G : List Nat) (ws : List ab_Ob) : Prop := ci_mok M ∧ ∀ (l : Launch) (E : ab_E) (h0 sz : Nat), Met l (ab_nm M) (ab_ws M) (ab_rm d mc ms) (ci_P E h0 ci sz) (ci_Q E h0 sz G ws) mc ms (fun q => q = h0 ∨ sz ≤ q)
/-- an object that is being made -/
def ci_S (x : ab_Cx) (h0 ci : Nat) (L : Nat → Int) (V : Nat → Value) (ar : List (Nat × Nat)) (ad : Nat → Nat → Nat) (G : List Nat) (ws : List ab_Ob) (H : Heap) (locs : List Loc) : Prop :=
  (t_OB h0 ((ab_cE x).1.1 ci) (ab_lay ci).length ((ab_cE x).1.2 ci) H V ∧ h0 < (ab_cs x).heap.size) ∧
  ((∀ q ∈ ar, ab_arr (ab_kd ci q.1) ∧ H[q.2]? = some (ab_ac ((ab_cE x).2.1 (ab_kd ci q.1)) (ab_kd ci q.1) (L q.1, fun _ => 0)) ∧ (ab_cs x).heap.size ≤ q.2) ∧ (∀ q ∈ ar, ∀ r ∈ ar, q.2 = r.2 → q.1 = r.1)) ∧
  (ab_W (ab_cE x) ad G ws H ∧ ab_ia ad G (fun q => (ab_cs x).heap.size ≤ q) ∧ (∀ q ∈ ar, ∀ o f, ab_sl G o f → ad o f ≠ q.2)) ∧
  va_S (ab_cA x) (ab_cs x).heap H locs
theorem ab_W_kept {E : ab_E} {ad : Nat → Nat → Nat} {G : List Nat} {ws : List ab_Ob} {H H' : Heap} (h : ab_W E ad G ws H) (hk : ∀ o f, ab_sl G o f → H'[ad o f]? = H[ad o f]?) : ab_W E ad G ws H' := by
  refine ⟨h.1, fun o ci ob h1 h2 => ?_⟩
  obtain ⟨q1, q2, q3⟩ := h.2 o ci ob h1 h2
  exact ⟨q1.kept (hk o 0 (ab_sl0 h1)), fun f hf => by rw [hk o _ (ab_slf h1 hf)]; exact q2 f hf, q3⟩
theorem ci_hlt {H : Heap} {q : Nat} {c : Cell} (h : H[q]? = some c) : q < H.size := (Array.getElem?_eq_some_iff.mp h).1
section
variable {x : ab_Cx} {h0 ci : Nat} {L : Nat → Int} {V : Nat → Value} {ar : List (Nat × Nat)} {ad : Nat → Nat → Nat} {G : List Nat} {ws : List ab_Ob} {H : Heap} {locs : List Loc} {pc kc ks : Nat} {ls : Array Slot} {rest : List Value}
/-- the object's own cell has changed -/
theorem ci_S_put (S : ci_S x h0 ci L V ar ad G ws H locs) (hA : ab_cA x h0) {H' : Heap} {V' : Nat → Value} {k : Nat} (t : t_OB h0 ((ab_cE x).1.1 ci) (ab_lay ci).length ((ab_cE x).1.2 ci) H' V') (hz : H'.size = H.size) (hne : ∀ q, q ≠ h0 → H'[q]? = H[q]?) : ci_S x h0 ci L V' ar ad G ws H' (locs ++ [⟨h0, k⟩]) := by
  obtain ⟨⟨s1, s2⟩, ⟨s3, s4⟩, ⟨s5, s6, s7⟩, s8⟩ := S
  refine ⟨⟨t, s2⟩, ⟨fun q hq => ?_, s4⟩, ⟨ab_W_kept s5 (fun o f hs => hne _ ?_), s6, s7⟩, s8.put hz hne hA⟩
  · obtain ⟨a1, a2, a3⟩ := s3 q hq
    exact ⟨a1, by rw [hne _ (by omega)]; exact a2, a3⟩
  · have : (ab_cs x).heap.size ≤ ad o f := s6.2 o f hs
    omega
/-- a field of it is put -/
theorem ro_put (X : ab_X x) {h f i : Nat} {v : Value} (ha : ci < 10) (hf : f < (ab_lay ci).length) (hw : .fieldLink (ab_nm (ab_cM x)).cls i (ab_T ci f).1 (ab_T ci f).2.1 (ab_T ci f).2.2.1 ∈ ab_gw) (hd : ab_dec x pc (.putfield i) 3) (hO : t_OB h ((ab_cE x).1.1 ci) (ab_lay ci).length ((ab_cE x).1.2 ci) H V) (hn : narrow (ab_ty ci f) v = v) (hv : fits (ab_ty ci f) v = true) (hin : (ab_T ci f).2.2.2 = false ∨ (x.2.1.2.1.name = "<init>" ∧ (ab_nm (ab_cM x)).cls = (ab_T ci f).1))
    (kk : ∀ H' : Heap, t_OB h ((ab_cE x).1.1 ci) (ab_lay ci).length ((ab_cE x).1.2 ci) H' (updV V f v) → H'.size = H.size → (∀ q, q ≠ h → H'[q]? = H[q]?) → ab_Wx x H' (locs ++ [⟨h, (ab_cE x).1.2 ci f⟩]) kc ks (F0 (ab_cm x) (pc + 3) ls rest)) : ab_Wx x H locs kc ks (F0 (ab_cm x) pc ls (v :: .ref h :: rest)) := by
  obtain ⟨cell, q1, q2, q3, q4⟩ := hO
  obtain ⟨hS, hfc, kC, hkC, hkind⟩ := X.K.1.1 ci _ (ab_cls ha)
  obtain ⟨cf, kf, fi, fd, hi, hsl⟩ := hS f hf
  have hap := va_apart (own := "") X.ts (ab_inl ha) (ab_ty ci) (ab_tyok ha) (ab_nms ha) X.K.1 (ab_cls ha)
  have hst := (u_facts hfc hkC (u_lays X.ts (ab_inl ha) hf) hi).1
  have hlay := X.ts _ (ab_inl ha _ (u_in_lay hf))
  unfold u_lay at hlay
  cases hb : (ab_T ci f).2.2.2 with
  | false =>
    rw [if_neg (by rw [hb]; decide)] at hlay
    have h6 := u_store hfc hkC hkind hlay hi (ab_tyok ha f hf) hn hv
    refine W.putK X.ex X.cd (f := fd) ⟨X.own, X.ts _ hw, ⟨_, _, _, hi⟩, hst⟩ (by rw [q2]; exact h6) q1 q3 (by rw [hsl]; exact k2_hasslot (q4 f hf)) rfl rfl hd fun H' e1 e2 e3 => ?_
    rw [hsl] at e1 ⊢
    exact kk H' ⟨_, e1, q2, q3, t_set q4 hap hf v⟩ e2 e3
  | true =>
    rw [if_pos hb] at hlay
    have hin2 := hin.resolve_left (by rw [hb]; decide)
    have hcf : (ab_cm x).cls = cf := by
      obtain ⟨_, _, c', _, _, _, -, -, hf', -, -, -, hown2, -⟩ := Cond.laysFinal_spec hlay
      have e1 : c' = cf := by have := hi.symm.trans hf'; simp at this; exact this.1.symm
      rw [← hin2.2] at hown2
      rw [← e1]; exact Option.some.inj (X.own.symm.trans hown2)
    have h6 := u_fits hfc hkC hkind (Or.inr hlay) hi (ab_tyok ha f hf) hn hv
    refine W.putFinK X.ex X.cd X.own (X.ts _ hw) hi hst hcf hin2.1 (by rw [q2]; exact h6) q1 q3 (by rw [hsl]; exact k2_hasslot (q4 f hf)) rfl rfl hd fun H' e1 e2 e3 => ?_
    rw [hsl] at e1 ⊢
    exact kk H' ⟨_, e1, q2, q3, t_set q4 hap hf v⟩ e2 e3
def ci_pB (cd : ByteArray) (pc : Nat) (n : Int) (k : Nat) : Bool := (decide (decode cd pc = .ok (.iconst n, 1)) && decide (k = 1 ∧ -1 ≤ n ∧ n ≤ 5)) || ((decide (decode cd pc = .ok (.bipush n, 2)) && decide (k = 2 ∧ -128 ≤ n ∧ n ≤ 127)) || (decide (decode cd pc = .ok (.sipush n, 3)) && decide (k = 3 ∧ -32768 ≤ n ∧ n ≤ 32767)))
theorem ci_push (X : ab_X x) {n : Int} {k : Nat} (h : ci_pB (ab_cd (ab_cM x)) pc n k = true) (kk : ab_Wx x H locs kc ks (F0 (ab_cm x) (pc + k) ls (.int (Int32.ofInt n) :: rest))) : ab_Wx x H locs kc ks (F0 (ab_cm x) pc ls rest) := by
  unfold ci_pB at h
  simp only [Bool.or_eq_true, Bool.and_eq_true, decide_eq_true_eq] at h
  rcases h with ⟨h, rfl, n1, n2⟩ | ⟨h, rfl, n1, n2⟩ | ⟨h, rfl, n1, n2⟩
  · exact lv_iconst X.ex X.cd h rfl kk
  · exact lv_bipush X.ex X.cd h (by
      rw [← Int32.toInt_inj, ab_t32 (z := n) ⟨by omega, by omega⟩]
      simp [Int8.toInt_ofInt_of_le (n := n) (by omega) (by omega)]) kk
  · exact lv_sipush X.ex X.cd h (by
      rw [← Int32.toInt_inj, ab_t32 (z := n) ⟨by omega, by omega⟩]
      simp [Int16.toInt_ofInt_of_le (n := n) (by omega) (by omega)]) kk
/-- a constructor that runs: which object, what it promises -/
def ci_At (x : ab_Cx) (M : ab_M) (d mc ms h0 : Nat) (G : List Nat) (ws : List ab_Ob) : Prop := (ab_cM x = M ∧ ab_cd' x = d ∧ ab_cc x = mc ∧ ab_ck x = ms) ∧ ab_X x ∧ (ab_cA x = fun q => q = h0 ∨ (ab_cs x).heap.size ≤ q) ∧ (x.2.1.2.1.name = "<init>" ∧ ci_N (ab_cs x)) ∧ (∀ t : State, MQ x.2.1.1 (ci_Q (ab_cE x) h0 (ab_cs x).heap.size G ws) (ab_ca x) (ab_cs x) mc ms (ab_cA x) t → x.2.1.2.2.2 t)
def ci_iB (cd : ByteArray) (pc : Nat) (n : Int) (k i : Nat) : Bool := decide (decode cd pc = .ok (.aload_n 0, 1)) && (ci_pB cd (pc + 1) n k && decide (decode cd (pc + 1 + k) = .ok (.putfield i, 3)))
/-- a number is put -/
theorem ci_int {M : ab_M} {d mc ms : Nat} {G' : List Nat} {ws' : List ab_Ob} (hx : ci_At x M d mc ms h0 G' ws') (hl : ls[0]? = some (.val (.ref h0))) (S : ci_S x h0 ci L V ar ad G ws H locs) {f i k p : Nat} {n : Int} (ha : ci < 10) (hf : f < (ab_lay ci).length) (hc : (ab_nm M).cls = (ab_T ci f).1) (hw : ab_lk (.fieldLink (ab_nm M).cls i (ab_T ci f).1 (ab_T ci f).2.1 (ab_T ci f).2.2.1) p = true) (hd : ci_iB (ab_cd M) pc n k i = true) (hn : narrow (ab_ty ci f) (.int (Int32.ofInt n)) = .int (Int32.ofInt n)) (hv : fits (ab_ty ci f) (.int (Int32.ofInt n)) = true)
    (kk : ∀ (H' : Heap) (locs' : List Loc), ci_S x h0 ci L (updV V f (.int (Int32.ofInt n))) ar ad G ws H' locs' → ab_Wx x H' locs' kc ks (F0 (ab_cm x) (pc + 4 + k) ls [])) : ab_Wx x H locs kc ks (F0 (ab_cm x) pc ls []) := by
  obtain ⟨⟨rfl, rfl, rfl, rfl⟩, X, hA, hN, hQ⟩ := hx
  unfold ci_iB at hd
  simp only [Bool.and_eq_true, decide_eq_true_eq] at hd
  obtain ⟨d0, d1, d2⟩ := hd
  refine lv_aload_n X.ex X.cd d0 rfl hl ?_
  refine ci_push X d1 ?_
  refine ro_put X ha hf (ab_lk_in hw) d2 S.1.1 hn hv (Or.inr ⟨hN.1, hc⟩) (fun H' t hz hne => ?_)
  have := kk H' _ (ci_S_put (k := (ab_cE x).1.2 ci f) S (by rw [hA]; exact Or.inl rfl) t hz hne)
  rw [show pc + 4 + k = pc + 1 + k + 3 by omega] at this
  exact this
def ci_aB (cd : ByteArray) (pc : Nat) (n : Int) (k i : Nat) (ty : ArrayType) : Bool := decide (decode cd pc = .ok (.aload_n 0, 1)) && (ci_pB cd (pc + 1) n k && (decide (decode cd (pc + 1 + k) = .ok (.newarray ty, 2)) && decide (decode cd (pc + 1 + k + 2) = .ok (.putfield i, 3))))
theorem ci_ac0 {k : Nat} (hk : k = 3 ∨ k = 4 ∨ k = 5 ∨ k = 6) (cA : ClassId) (n : Int) : arrV cA n.toNat (fun _ => defaultValue (ab_kt k)) = ab_ac cA k (n, fun _ => 0) := by
  rcases hk with rfl | rfl | rfl | rfl <;> rfl
/-- a row is made and put -/
theorem ci_arr {M : ab_M} {d mc ms : Nat} {G' : List Nat} {ws' : List ab_Ob} (hx : ci_At x M d mc ms h0 G' ws') (hl : ls[0]? = some (.val (.ref h0))) (S : ci_S x h0 ci L V ar ad G ws H locs) {f i k p p2 : Nat} {n : Int} {ty : ArrayType} (ha : ci < 10) (hf : f < (ab_lay ci).length) (hc : (ab_nm M).cls = (ab_T ci f).1) (hw : ab_lk (.fieldLink (ab_nm M).cls i (ab_T ci f).1 (ab_T ci f).2.1 (ab_T ci f).2.2.1) p = true) (hac : ab_lk (.arrayClass (newarray.typeOf ty)) p2 = true) (hd : ci_aB (ab_cd M) pc n k i ty = true) (hty : newarray.typeOf ty = ab_kt (ab_kd ci f)) (hk3 : ab_kd ci f = 3 ∨ ab_kd ci f = 4 ∨ ab_kd ci f = 5 ∨ ab_kd ci f = 6) (hLn : L f = n) (hn0 : 0 ≤ n ∧ n ≤ 100000) (hv : ∀ a : Nat, narrow (ab_ty ci f) (.ref a) = .ref a ∧ fits (ab_ty ci f) (.ref a) = true) (hr : kc + 1 ≤ mc ∧ ks + n.toNat ≤ ms)
    (kk : ∀ (a : Nat) (H' : Heap) (locs' : List Loc), ci_S x h0 ci L (updV V f (.ref a)) ((f, a) :: ar) ad G ws H' locs' → ab_Wx x H' locs' (kc + 1) (ks + n.toNat) (F0 (ab_cm x) (pc + 6 + k) ls [])) : ab_Wx x H locs kc ks (F0 (ab_cm x) pc ls []) := by
  obtain ⟨⟨rfl, rfl, rfl, rfl⟩, X, hA, hN, hQ⟩ := hx
  unfold ci_aB at hd
  simp only [Bool.and_eq_true, decide_eq_true_eq] at hd
  obtain ⟨d0, d1, d2, d3⟩ := hd
  refine lv_aload_n X.ex X.cd d0 rfl hl ?_
  refine ci_push X d1 ?_
  have hnn : ab_okk 0 n := ⟨by omega, by omega⟩
  have hR := X.R
  refine va_newaK X.ex X.cd (atype := ty) (X.ts _ (ab_lk_in hac)) rfl d2 rfl (N := n.toNat) (by rw [← ab_of0, ab_lt32 hnn ab_ok0]; omega) (ab_cl32 hnn) (by
    have hcb : componentBytes (newarray.typeOf ty) ≤ 8 := by rw [hty]; rcases hk3 with h | h | h | h <;> rw [h] <;> decide
    calc n.toNat * componentBytes (newarray.typeOf ty) ≤ 100000 * 8 := Nat.mul_le_mul (by omega) hcb
      _ ≤ 536870912 := by decide) (by rw [hR]; exact hr.1) (by rw [hR]; exact hr.2) rfl fun H1 cA e1 z1 o1 hAr hNm => ?_
  have har : ab_arr (ab_kd ci f) := by rcases hk3 with h | h | h | h <;> rw [h] <;> exact ⟨by omega, by omega⟩
  have hcA : cA = (ab_cE x).2.1 (ab_kd ci f) := by
    have hRA := (ab_Karr X.K.1 har).2
    rw [← hty] at hRA
    have : (ab_cs x).vm.findClass ("[" ++ (newarray.typeOf ty).toString) = some ((ab_cE x).2.1 (ab_kd ci f)) := by
      revert hRA
      cases ty <;> exact fun h => h
    exact Option.some.inj (hNm.symm.trans this)
  have hc1 : H1[H.size]? = some (ab_ac ((ab_cE x).2.1 (ab_kd ci f)) (ab_kd ci f) (L f, fun _ => 0)) := by
    rw [e1, hcA, hty, ci_ac0 hk3, hLn]
  obtain ⟨⟨s1, s2⟩, ⟨s3, s4⟩, ⟨s5, s6, s7⟩, s8⟩ := S
  have hlt1 : h0 < H.size := Nat.lt_of_lt_of_le s2 s8.1
  have S1 : ci_S x h0 ci L V ((f, H.size) :: ar) ad G ws H1 locs := by
    refine ⟨⟨s1.kept (o1 _ hlt1), s2⟩, ⟨fun q hq => ?_, fun q hq r hr e => ?_⟩, ⟨ab_W_kept s5 (fun o f' hs => o1 _ (ab_W_lt s5 hs)), s6, fun q hq o f' hs => ?_⟩, ⟨by have := s8.1; omega, fun q g1 g2 => by rw [o1 q (Nat.lt_of_lt_of_le g1 s8.1)]; exact s8.2.1 q g1 g2, s8.2.2⟩⟩
    · rcases List.mem_cons.mp hq with rfl | hq
      · exact ⟨har, hc1, s8.1⟩
      · obtain ⟨a1, a2, a3⟩ := s3 q hq
        exact ⟨a1, by rw [o1 _ (ci_hlt a2)]; exact a2, a3⟩
    · rcases List.mem_cons.mp hq with rfl | hq
      · rcases List.mem_cons.mp hr with rfl | hr
        · rfl
        · have := ci_hlt (s3 r hr).2.1
          dsimp only at e
          omega
      · rcases List.mem_cons.mp hr with rfl | hr
        · have := ci_hlt (s3 q hq).2.1
          dsimp only at e
          omega
        · exact s4 q hq r hr e
    · rcases List.mem_cons.mp hq with rfl | hq
      · have := ab_W_lt s5 hs
        dsimp only
        omega
      · exact s7 q hq o f' hs
  refine ro_put X ha hf (ab_lk_in hw) d3 S1.1.1 (hv _).1 (hv _).2 (Or.inr ⟨hN.1, hc⟩) (fun H' t hz hne => ?_)
  have := kk H.size H' _ (ci_S_put (k := (ab_cE x).1.2 ci f) S1 (by rw [hA]; exact Or.inl rfl) t hz hne)
  rw [show pc + 6 + k = pc + 1 + k + 2 + 3 by omega] at this
  exact this
end
