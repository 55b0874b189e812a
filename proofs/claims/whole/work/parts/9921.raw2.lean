/-! CONSTRUCTORS: objects inside, the end, the contract -/
/-- two worlds one behind another -/
def ab_app (ad : Nat → Nat → Nat) (n : Nat) (ad2 : Nat → Nat → Nat) : Nat → Nat → Nat := fun o f => if o < n then ad o f else ad2 (o - n) f
/-- objects inside objects lie in the world -/
def ab_clB (n : Nat) : Nat → List Nat → Bool
  | _, [] => true
  | o, c :: l => (ab_lay c).all (fun kd => decide (kd < 7 ∨ o + (kd - 7) < n)) && ab_clB n (o + 1) l
theorem ab_clB_at {n : Nat} : ∀ {G : List Nat} {o0 o ci f k : Nat}, ab_clB n o0 G = true → ab_at G o = some ci → ab_kd ci f = k + 7 → o0 + o + k < n
  | [], _, _, _, _, _, _, h, _ => by simp [ab_at] at h
  | c :: G, o0, 0, ci, f, k, h, ho, hk => by
    simp only [ab_at, Option.some.injEq] at ho
    subst ho
    simp only [ab_clB, Bool.and_eq_true, List.all_eq_true, decide_eq_true_eq] at h
    have hm : k + 7 ∈ ab_lay c := by
      unfold ab_kd at hk
      rw [List.getD_eq_getElem?_getD] at hk
      cases hg : (ab_lay c)[f]? with
      | none => rw [hg] at hk; simp at hk
      | some v =>
        rw [hg] at hk
        simp at hk
        subst hk
        exact List.mem_of_getElem? hg
    have := h.1 _ hm
    omega
  | c :: G, o0, o + 1, ci, f, k, h, ho, hk => by
    simp only [ab_clB, Bool.and_eq_true] at h
    have := ab_clB_at (G := G) (o0 := o0 + 1) (o := o) h.2 ho hk
    omega
theorem ab_at_app {α : Type} {a b : List α} {o : Nat} {v : α} (h : ab_at (a ++ b) o = some v) : (o < a.length ∧ ab_at a o = some v) ∨ (a.length ≤ o ∧ ab_at b (o - a.length) = some v) := by
  rw [ab_at_eq] at h
  by_cases ho : o < a.length
  · rw [List.getElem?_append_left ho] at h
    exact Or.inl ⟨ho, by rw [ab_at_eq]; exact h⟩
  · rw [List.getElem?_append_right (by omega)] at h
    exact Or.inr ⟨by omega, by rw [ab_at_eq]; exact h⟩
theorem ab_W_app {E : ab_E} {ad ad2 : Nat → Nat → Nat} {G G2 : List Nat} {ws ws2 : List ab_Ob} {H : Heap} (h1 : ab_W E ad G ws H) (h2 : ab_W E ad2 G2 ws2 H) (hc : ab_clB G.length 0 G = true) : ab_W E (ab_app ad G.length ad2) (G ++ G2) (ws ++ ws2) H := by
  refine ⟨by rw [List.length_append, List.length_append, h1.1, h2.1], fun o ci ob g1 g2 => ?_⟩
  rcases ab_at_app g1 with ⟨l1, g1⟩ | ⟨l1, g1⟩
  · rcases ab_at_app g2 with ⟨l2, g2⟩ | ⟨l2, g2⟩
    · refine ab_ob_move (h1.2 o ci ob g1 g2) (if_pos l1) (fun f _ => if_pos l1) (fun f k hk => if_pos ?_)
      have := ab_clB_at hc g1 hk
      omega
    · rw [h1.1] at l2; omega
  · rcases ab_at_app g2 with ⟨l2, g2⟩ | ⟨l2, g2⟩
    · rw [h1.1] at l2; omega
    · rw [h1.1] at g2
      refine ab_ob_move (h2.2 _ ci ob g1 g2) (if_neg (by omega)) (fun f _ => if_neg (by omega)) (fun f k hk => ?_)
      show (if o + k < G.length then ad (o + k) 0 else ad2 (o + k - G.length) 0) = _
      rw [if_neg (by omega), show o + k - G.length = o - G.length + k by omega]
theorem ab_sl_app {G G2 : List Nat} {o f : Nat} (h : ab_sl (G ++ G2) o f) : (o < G.length ∧ ab_sl G o f) ∨ (G.length ≤ o ∧ ab_sl G2 (o - G.length) f) := by
  match f, h with
  | 0, ⟨c, hc⟩ =>
    rcases ab_at_app hc with ⟨l1, g⟩ | ⟨l1, g⟩
    · exact Or.inl ⟨l1, c, g⟩
    · exact Or.inr ⟨l1, c, g⟩
  | f + 1, ⟨c, hc, ha⟩ =>
    rcases ab_at_app hc with ⟨l1, g⟩ | ⟨l1, g⟩
    · exact Or.inl ⟨l1, c, g, ha⟩
    · exact Or.inr ⟨l1, c, g, ha⟩
/-- the first lies below z, the second from there on -/
theorem ab_ia_app {ad ad2 : Nat → Nat → Nat} {G G2 : List Nat} {z y : Nat} (h1 : ab_ia ad G (fun q => y ≤ q)) (h1' : ∀ o f, ab_sl G o f → ad o f < z) (h2 : ab_ia ad2 G2 (fun q => z ≤ q)) (hz : y ≤ z) : ab_ia (ab_app ad G.length ad2) (G ++ G2) (fun q => y ≤ q) := by
  have e1 : ∀ o f, o < G.length → ab_app ad G.length ad2 o f = ad o f := fun o f h => if_pos h
  have e2 : ∀ o f, G.length ≤ o → ab_app ad G.length ad2 o f = ad2 (o - G.length) f := fun o f h => if_neg (by omega)
  refine ⟨fun o f o' f' s1 s2 he => ?_, fun o f s1 => ?_⟩
  · rcases ab_sl_app s1 with ⟨l1, g1⟩ | ⟨l1, g1⟩
    · rcases ab_sl_app s2 with ⟨l2, g2⟩ | ⟨l2, g2⟩
      · rw [e1 _ _ l1, e1 _ _ l2] at he
        exact h1.1 _ _ _ _ g1 g2 he
      · rw [e1 _ _ l1, e2 _ _ l2] at he
        have := h1' _ _ g1
        have : z ≤ ad2 (o' - G.length) f' := h2.2 _ _ g2
        omega
    · rcases ab_sl_app s2 with ⟨l2, g2⟩ | ⟨l2, g2⟩
      · rw [e2 _ _ l1, e1 _ _ l2] at he
        have := h1' _ _ g2
        have : z ≤ ad2 (o - G.length) f := h2.2 _ _ g1
        omega
      · rw [e2 _ _ l1, e2 _ _ l2] at he
        obtain ⟨a, b⟩ := h2.1 _ _ _ _ g1 g2 he
        exact ⟨by omega, b⟩
  · rcases ab_sl_app s1 with ⟨l1, g1⟩ | ⟨l1, g1⟩
    · show y ≤ _
      rw [e1 _ _ l1]
      exact h1.2 _ _ g1
    · show y ≤ _
      rw [e2 _ _ l1]
      have : z ≤ ad2 (o - G.length) f := h2.2 _ _ g1
      omega
section
variable {x : ab_Cx} {h0 ci : Nat} {L : Nat → Int} {V : Nat → Value} {ar : List (Nat × Nat)} {ad : Nat → Nat → Nat} {G : List Nat} {ws : List ab_Ob} {H : Heap} {locs : List Loc} {pc kc ks : Nat} {ls : Array Slot} {rest : List Value}
theorem ci_callg {p : Program} {l : Launch} {e : Env} {R : Room} {s : State} {m : MethodId} {args : Array Value} {below : List Frame} {meth : Method} {c : Code} {cells slots mc ms sz : Nat} {Q : State → Prop} {st0 : List Value} {a : Array Value} {A0 : Nat → Prop} {E : ab_E} {G2 : List Nat} {ws2 : List ab_Ob} (hr : va_Run p l e R s m args below meth c H locs cells slots mc ms (F0 m pc ls st0) rest (ci_Q E h0 sz G2 ws2 a) (fun q => q = h0 ∨ sz ≤ q)) (hS : va_S A0 s.heap H locs) (hA : ∀ q, (q = h0 ∨ sz ≤ q) → A0 q)
    (kk : ∀ (ad2 : Nat → Nat → Nat) (H2 : Heap) (locs2 : List Loc), ad2 0 0 = h0 → ab_W E ad2 G2 ws2 H2 → ab_ia ad2 G2 (fun q => q = h0 ∨ sz ≤ q) → H.size ≤ H2.size → (∀ q : Nat, q < H.size → ¬ (q = h0 ∨ sz ≤ q) → H2[q]? = H[q]?) → va_S A0 s.heap H2 locs2 → W p l e R s m args below meth c H2 locs2 (cells + mc) (slots + ms) Q (F0 m (pc + 3) ls rest)) : W p l e R s m args below meth c H locs cells slots Q (F0 m pc ls st0) := by
  intro T hT X
  obtain ⟨v, st₀, t, T', Lc, g0, X', hL, e1, e2, ⟨⟨hv, ad2, q1, q2, q3⟩, hz, hk⟩, st⟩ := hr T hT X
  cases hv
  rw [g0] at hz hk
  obtain ⟨t2, a1, b1⟩ := kk ad2 T'.heap (locs ++ Lc) q1 (by rw [e1]; exact q2) q3 (by rw [e1]; exact hz) (fun q h1 h2 => by rw [e1]; exact hk q h1 h2)
    ⟨Nat.le_trans hS.1 (by rw [e1]; exact hz), fun q h1 h2 => by rw [e1, hk q (Nat.lt_of_lt_of_le h1 hS.1) (fun z => h2 (hA q z))]; exact hS.2.1 q h1 h2, fun q hq => by
      rcases List.mem_append.mp hq with h | h
      · exact hS.2.2 q h
      · exact hA _ (hL q h)⟩ T' rfl X'
  exact ⟨t2, st t2 a1, b1⟩
/-- a new object, made by its constructor -/
theorem ci_new (X : ab_X x) {M : ab_M} {ci2 mc ms i1 i2 n : Nat} {G2 : List Nat} {ws2 : List ab_Ob} (hC : ci_Ct (ab_cd' x) mc ms M ci2 G2 ws2) (hlt : ci2 < 10) (hcl : .classLink (ab_nm (ab_cM x)).cls i1 (ab_C ci2) ∈ ab_gw) (hins : .instantiable (ab_C ci2) n ∈ ab_gw) (hini : .initialized (ab_C ci2) ∈ ab_gw) (hlk : .methodLink (ab_nm (ab_cM x)).cls i2 (ab_nm M) ∈ ab_gw ∨ va_Nw (.methodLinkNest (ab_nm (ab_cM x)).cls i2 (ab_nm M) "HeadTrees") (ab_cs x)) (hN : ci_N (ab_cs x)) (hd1 : ab_dec x pc (.new i1) 3) (hd2 : ab_dec x (pc + 3) .dup 1) (hd3 : ab_dec x (pc + 4) (.invokespecial i2) 3) (hS : va_S (ab_cA x) (ab_cs x).heap H locs) (hsize : ls.size = ab_ml (ab_cM x)) (hcat : (rest.map fun v => v.category).sum ≤ 7) (hr : kc + 1 + mc ≤ ab_cc x ∧ ks + n + ms ≤ ab_ck x)
    (kk : ∀ (ad2 : Nat → Nat → Nat) (H2 : Heap) (locs2 : List Loc), ad2 0 0 = H.size → ab_W (ab_cE x) ad2 G2 ws2 H2 → ab_ia ad2 G2 (fun q => H.size ≤ q) → H.size ≤ H2.size → (∀ q : Nat, q < H.size → H2[q]? = H[q]?) → va_S (ab_cA x) (ab_cs x).heap H2 locs2 → ab_Wx x H2 locs2 (kc + 1 + mc) (ks + n + ms) (F0 (ab_cm x) (pc + 7) ls (.ref H.size :: rest))) : ab_Wx x H locs kc ks (F0 (ab_cm x) pc ls rest) := by
  obtain ⟨⟨⟨m1, m2, m3⟩, m4, m5, m6, m7⟩, hMet⟩ := hC
  have hfc := (X.K.1.1 ci2 _ (ab_cls hlt)).2.1
  refine W.newcK X.ex X.cd (C := ab_C ci2) X.own (X.ts _ hcl) (X.ts _ hins) (X.ts _ hini) rfl hd1 (by rw [X.R]; show kc + 1 ≤ ab_cc x; omega) (by rw [X.R]; show ks + n ≤ ab_ck x; omega) hfc rfl fun H1 kC hkC e1 z1 o1 => ?_
  have hO : t_OB H.size ((ab_cE x).1.1 ci2) (ab_lay ci2).length ((ab_cE x).1.2 ci2) H1 (fun k => defaultValue (ab_ty ci2 k)) := u_born (ab_ty ci2) X.ts (ab_inl hlt) (X.K.1.1 ci2 _ (ab_cls hlt)) hkC e1 (ab_tyok hlt)
  have hS1 : va_S (ab_cA x) (ab_cs x).heap H1 locs := ⟨by have := hS.1; omega, fun q h1 h2 => by rw [o1 q (Nat.lt_of_lt_of_le h1 hS.1)]; exact hS.2.1 q h1 h2, hS.2.2⟩
  have hAA : ∀ q, (q = H.size ∨ H1.size ≤ q) → ab_cA x q := fun q hq => X.A q (by have := hS.1; omega)
  refine lv_dup X.ex X.cd hd2 rfl ?_
  have hR : (ab_rm (ab_cd' x) mc ms).frames + 1 ≤ (ab_cR x).frames ∧ 8 + (1 + 11) + (ab_rm (ab_cd' x) mc ms).locals ≤ (ab_cR x).locals := by
    rw [X.R]
    refine ⟨Nat.le_refl _, ?_⟩
    show 8 + (1 + 11) + 37 * ab_cd' x ≤ 37 * (ab_cd' x + 1)
    omega
  have hf : kc + 1 + mc ≤ (ab_cR x).cells ∧ ks + n + ms ≤ (ab_cR x).slots := by rw [X.R]; exact hr
  have hfix : CallFix x.1.1 (ab_cm x) x.2.1.2.2.1 (ab_cd (ab_cM x)) (ab_ml (ab_cM x)) (ab_cs x) (ab_ca x) ab_gw (ab_nm (ab_cM x)).cls := ⟨X.ex, X.cd, X.ml, X.own, X.ts⟩
  have hws : ab_ws M = .code (ab_nm M) (ab_cd M) 1 none :: ab_gw := by unfold ab_ws; rw [m6, m7]
  have hGi : GoodIn ab_gw (ab_ws M) := by
    rw [hws]
    intro w hw
    have : w ∈ ab_gw := by
      rcases List.mem_cons.mp hw with rfl | hw
      · exact m1
      · exact hw
    exact ⟨this, ab_gw_good this⟩
  have hPre : PreS (ab_cs x) H1 (ci_P (ab_cE x) H.size ci2 H1.size) (.ref H.size :: []) := ⟨fun a U g mk q => ⟨q.1, q.2.1, q.2.2.1, ab_K_blind q.2.2.2.1 rfl rfl, ci_N.same rfl q.2.2.2.2⟩, fun U hU hWm => ⟨rfl, by rw [hU], by rw [hU]; exact hO, ab_K_at X.K hS1 hU hWm hAA, ci_N.warm hWm hN⟩⟩
  have hcat' : ((Value.ref H.size :: rest).map fun v => v.category).sum ≤ 8 := by
    rw [List.map_cons, List.sum_cons]
    show 1 + _ ≤ 8
    omega
  have hrun : va_Run x.1.1 x.1.2.1 x.1.2.2.1 (ab_cR x) (ab_cs x) (ab_cm x) (ab_ca x) x.2.1.1 x.2.1.2.1 x.2.1.2.2.1 H1 locs (kc + 1) (ks + n) mc ms (F0 (ab_cm x) (pc + 4) ls (.ref H.size :: .ref H.size :: rest)) (.ref H.size :: rest) (ci_Q (ab_cE x) H.size H1.size G2 ws2 (Value.ref H.size :: []).toArray) (fun q => q = H.size ∨ H1.size ≤ q) := by
    rcases hlk with hlk | hlk
    · exact va_runI (As := []) (b := H.size) hfix (hMet x.1.2.1 (ab_cE x) H.size H1.size) ⟨callB_of (own := (ab_nm (ab_cM x)).cls) (index := i2) 0 X.ts hGi hws rfl rfl (X.ts _ m2) (X.ts _ hlk) m4 hR, m5, X.ts _ m3⟩ hPre rfl rfl hsize rfl (lv_room hcat') hd3 hf
    · exact va_runIN (As := []) (b := H.size) hfix (hMet x.1.2.1 (ab_cE x) H.size H1.size) ⟨va_cnB (own := (ab_nm (ab_cM x)).cls) (index := i2) 0 X.ts hGi hws rfl rfl hlk (X.ts _ m2) m4 hR, m5, X.ts _ m3⟩ hPre rfl rfl hsize rfl (lv_room hcat') hd3 hf
  refine ci_callg hrun hS1 hAA (fun ad2 H2 locs2 q1 q2 q3 q4 q5 q6 => ?_)
  refine kk ad2 H2 locs2 q1 q2 ⟨q3.1, fun o f hs => ?_⟩ (by omega) (fun q hq => ?_) q6
  · have := q3.2 o f hs
    show H.size ≤ _
    omega
  · rw [q5 q (by omega) (by omega)]
    exact o1 q hq
def ci_sB (cd : ByteArray) (pc i1 i2 i : Nat) : Bool := decide (decode cd pc = .ok (.aload_n 0, 1)) && (decide (decode cd (pc + 1) = .ok (.new i1, 3)) && (decide (decode cd (pc + 4) = .ok (.dup, 1)) && (decide (decode cd (pc + 5) = .ok (.invokespecial i2, 3)) && decide (decode cd (pc + 8) = .ok (.putfield i, 3)))))
/-- an object inside is made and put -/
theorem ci_sub {M M2 : ab_M} {d mc ms mc2 ms2 : Nat} {G' : List Nat} {ws' : List ab_Ob} (hx : ci_At x M (d + 1) mc ms h0 G' ws') (hl : ls[0]? = some (.val (.ref h0))) (hls : ls.size = 1) (S : ci_S x h0 ci L V ar ad G ws H locs) {f i i1 i2 p p1 p2 p3 p4 n ci2 : Nat} {G2 : List Nat} {ws2 : List ab_Ob} (hC : ci_Ct (d + 1) mc2 ms2 M2 ci2 G2 ws2) (ha : ci < 10) (hf : f < (ab_lay ci).length) (hml : ab_ml M = 1) (hc : (ab_nm M).cls = (ab_T ci f).1) (hw : ab_lk (.fieldLink (ab_nm M).cls i (ab_T ci f).1 (ab_T ci f).2.1 (ab_T ci f).2.2.1) p = true) (hlt : ci2 < 10) (hcl : ab_lk (.classLink (ab_nm M).cls i1 (ab_C ci2)) p1 = true) (hins : ab_lk (.instantiable (ab_C ci2) n) p2 = true) (hini : ab_lk (.initialized (ab_C ci2)) p3 = true) (hlk : ci_ns[p4]? = some ((ab_nm M).cls, i2, ab_nm M2)) (hd : ci_sB (ab_cd M) pc i1 i2 i = true) (hv : ∀ a : Nat, narrow (ab_ty ci f) (.ref a) = .ref a ∧ fits (ab_ty ci f) (.ref a) = true) (hr : kc + 1 + mc2 ≤ mc ∧ ks + n + ms2 ≤ ms) (hcG : ab_clB G.length 0 G = true)
    (kk : ∀ (a : Nat) (ad2 : Nat → Nat → Nat) (H' : Heap) (locs' : List Loc), ad2 0 0 = a → ci_S x h0 ci L (updV V f (.ref a)) ar (ab_app ad G.length ad2) (G ++ G2) (ws ++ ws2) H' locs' → ab_Wx x H' locs' (kc + 1 + mc2) (ks + n + ms2) (F0 (ab_cm x) (pc + 11) ls [])) : ab_Wx x H locs kc ks (F0 (ab_cm x) pc ls []) := by
  obtain ⟨⟨rfl, hdd, rfl, rfl⟩, X, hA, hN, hQ⟩ := hx
  unfold ci_sB at hd
  simp only [Bool.and_eq_true, decide_eq_true_eq] at hd
  obtain ⟨d0, d1, d2, d3, d4⟩ := hd
  obtain ⟨⟨s1, s2⟩, ⟨s3, s4⟩, ⟨s5, s6, s7⟩, s8⟩ := S
  have hlt1 : h0 < H.size := Nat.lt_of_lt_of_le s2 s8.1
  refine lv_aload_n X.ex X.cd d0 rfl hl ?_
  refine ci_new X (by rw [hdd]; exact hC) hlt (ab_lk_in hcl) (ab_lk_in hins) (ab_lk_in hini) (Or.inr (hN.2 _ (List.mem_of_getElem? hlk))) hN.2 d1 d2 d3 s8 (by rw [hml]; exact hls) (Nat.le_of_ble_eq_true rfl) hr (fun ad2 H2 locs2 q1 q2 q3 q4 q5 q6 => ?_)
  have S1 : ci_S x h0 ci L V ar (ab_app ad G.length ad2) (G ++ G2) (ws ++ ws2) H2 locs2 := by
    refine ⟨⟨s1.kept (q5 _ hlt1), s2⟩, ⟨fun q hq => ?_, s4⟩, ⟨ab_W_app (ab_W_kept s5 (fun o f' hs => q5 _ (ab_W_lt s5 hs))) q2 hcG, ab_ia_app s6 (fun o f' hs => ab_W_lt s5 hs) q3 s8.1, fun q hq o f' hs => ?_⟩, q6⟩
    · obtain ⟨a1, a2, a3⟩ := s3 q hq
      exact ⟨a1, by rw [q5 _ (ci_hlt a2)]; exact a2, a3⟩
    · rcases ab_sl_app hs with ⟨l1, g1⟩ | ⟨l1, g1⟩
      · rw [show ab_app ad G.length ad2 o f' = ad o f' from if_pos l1]
        exact s7 q hq _ _ g1
      · rw [show ab_app ad G.length ad2 o f' = ad2 (o - G.length) f' from if_neg (by omega)]
        have h1 : H.size ≤ ad2 (o - G.length) f' := q3.2 _ _ g1
        have := ci_hlt (s3 q hq).2.1
        omega
  refine ro_put X ha hf (ab_lk_in hw) d4 S1.1.1 (hv _).1 (hv _).2 (Or.inr ⟨hN.1, hc⟩) (fun H' t hz hne => ?_)
  exact kk H.size ad2 H' _ q1 (ci_S_put (k := (ab_cE x).1.2 ci f) S1 (by rw [hA]; exact Or.inl rfl) t hz hne)
def ci_oB (cd : ByteArray) (i : Nat) : Bool := decide (decode cd 0 = .ok (.aload_n 0, 1)) && decide (decode cd 1 = .ok (.invokespecial i, 3))
theorem ci_obj {M : ab_M} {d mc ms : Nat} {G' : List Nat} {ws' : List ab_Ob} (hx : ci_At x M d mc ms h0 G' ws') (hl : ls[0]? = some (.val (.ref h0))) (hls : ls.size = 1) (hml : ab_ml M = 1) {i p : Nat} (hw : ab_lk (.methodLink (ab_nm M).cls i Lib.objectInit) p = true) (hd : ci_oB (ab_cd M) i = true) (kk : ab_Wx x H locs kc ks (F0 (ab_cm x) 4 ls [])) : ab_Wx x H locs kc ks (F0 (ab_cm x) 0 ls []) := by
  obtain ⟨⟨rfl, rfl, rfl, rfl⟩, X, hA, hN, hQ⟩ := hx
  unfold ci_oB at hd
  simp only [Bool.and_eq_true, decide_eq_true_eq] at hd
  refine lv_aload_n X.ex X.cd hd.1 rfl hl ?_
  refine W.objInit X.ex X.cd X.own (X.ts _ (ab_lk_in hw)) (X.ts _ (ab_lk_in (p := 124) (by decide +kernel))) (X.ts _ (ab_lk_in (p := 125) (by decide +kernel))) rfl (by rw [X.ml, hml]; exact hls) rfl hd.2 (by rw [X.R]; exact Nat.le_add_left _ _) (by rw [X.R]; show 2 * 0 + 0 + 12 ≤ 37 * (ab_cd' x + 1); omega) kk
def ci_lk : List (Nat × Nat) → Nat → Nat
  | [], _ => 0
  | q :: l, f => if q.1 = f then q.2 else ci_lk l f
def ci_ad (h0 : Nat) (ar : List (Nat × Nat)) (ad : Nat → Nat → Nat) : Nat → Nat → Nat
  | 0, 0 => h0
  | 0, f + 1 => ci_lk ar f
  | o + 1, f => ad o f
def ci_has (f : Nat) : List (Nat × Nat) → Bool
  | [] => false
  | q :: l => Nat.beq q.1 f || ci_has f l
theorem ci_has_in {f : Nat} : ∀ {ar : List (Nat × Nat)}, ci_has f ar = true → (f, ci_lk ar f) ∈ ar
  | [], h => by simp [ci_has] at h
  | q :: l, h => by
    by_cases e : q.1 = f
    · have e2 : ci_lk (q :: l) f = q.2 := if_pos e
      rw [e2, ← e]
      exact List.mem_cons_self
    · have e2 : ci_lk (q :: l) f = ci_lk l f := if_neg e
      rw [e2]
      simp only [ci_has, Bool.or_eq_true] at h
      refine List.mem_cons_of_mem _ (ci_has_in (h.resolve_left (fun g => e (Nat.eq_of_beq_eq_true g))))
/-- it is made -/
theorem ci_fin (S : ci_S x h0 ci L V ar ad G ws H locs) {sc : Nat → Int} (hV : ∀ f, f < (ab_lay ci).length → V f = ab_fv (ci_ad h0 ar ad) 0 (n_o sc L) f (ab_kd ci f)) (hall : ∀ f, f < (ab_lay ci).length → 3 ≤ ab_kd ci f → ab_kd ci f ≤ 6 → ci_has f ar = true) (hb : ∀ f, f < (ab_lay ci).length → ab_kd ci f = 1 → sc f = 0) (hsc : ∀ f, -1 ≤ sc f ∧ sc f ≤ 1) (hL : ∀ f, 0 ≤ L f ∧ L f ≤ 100000) : ab_W (ab_cE x) (ci_ad h0 ar ad) (ci :: G) (n_o sc L :: ws) H ∧ ab_ia (ci_ad h0 ar ad) (ci :: G) (fun q => q = h0 ∨ (ab_cs x).heap.size ≤ q) := by
  obtain ⟨⟨s1, s2⟩, ⟨s3, s4⟩, ⟨s5, s6, s7⟩, s8⟩ := S
  have hkd : ∀ f, ¬ f < (ab_lay ci).length → ab_kd ci f = 0 := fun f h => by
    unfold ab_kd
    rw [List.getD_eq_getElem?_getD, List.getElem?_eq_none (by omega)]
    rfl
  have hin : ∀ f, ab_arr (ab_kd ci f) → (f, ci_lk ar f) ∈ ar := fun f ha => by
    by_cases hf : f < (ab_lay ci).length
    · exact ci_has_in (hall f hf ha.1 ha.2)
    · rw [hkd f hf] at ha
      exact absurd ha.1 (by decide)
  have hok : ab_oko ci (n_o sc L) := by
    intro f
    refine ⟨fun _ h2 => ?_, fun ha => ⟨(hL f).1, by show L f ≤ _; have := (hL f).2; omega, fun i => ?_⟩⟩
    · show ab_okk (ab_kd ci f) (sc f)
      have h1 := hsc f
      by_cases hf : f < (ab_lay ci).length
      · have hb' := hb f hf
        revert hb' h2
        generalize ab_kd ci f = kd
        intro h2 hb'
        match kd, hb', h2 with
        | 0, _, _ => exact ⟨by omega, by omega⟩
        | 1, hb', _ => exact Or.inl (hb' rfl)
        | 2, _, _ => exact ⟨by omega, by omega⟩
      · rw [hkd f hf]
        exact ⟨by omega, by omega⟩
    · show ab_okk (ab_kd ci f) 0
      revert ha
      generalize ab_kd ci f = kd
      intro ha
      have : kd = 3 ∨ kd = 4 ∨ kd = 5 ∨ kd = 6 := by have := ha.1; have := ha.2; omega
      rcases this with rfl | rfl | rfl | rfl
      · exact ⟨by omega, by omega⟩
      · exact ⟨by omega, by omega⟩
      · exact ⟨by omega, by omega⟩
      · exact Or.inl rfl
  refine ⟨⟨by simp [s5.1], fun o c ob g1 g2 => ?_⟩, fun o f o' f' t1 t2 he => ?_, fun o f t1 => ?_⟩
  · cases o with
    | zero =>
      simp only [ab_at, Option.some.injEq] at g1 g2
      subst g1
      subst g2
      exact ⟨s1.to hV, fun f ha => (s3 _ (hin f ha)).2.1, hok⟩
    | succ o =>
      refine ab_ob_move (s5.2 o c ob g1 g2) rfl (fun _ _ => rfl) (fun f k _ => ?_)
      rw [show o + 1 + k = (o + k) + 1 by omega]
      rfl
  · have hsl0 : ∀ f, ab_sl (ci :: G) 0 (f + 1) → (f, ci_lk ar f) ∈ ar := fun f hs => by
      obtain ⟨c, hc, ha⟩ := hs
      simp only [ab_at, Option.some.injEq] at hc
      subst hc
      exact hin f ha
    have hslS : ∀ o f, ab_sl (ci :: G) (o + 1) f → ab_sl G o f := fun o f hs => by
      match f, hs with
      | 0, ⟨c, hc⟩ => exact ⟨c, hc⟩
      | f + 1, ⟨c, hc, ha⟩ => exact ⟨c, hc, ha⟩
    match o, f, o', f', t1, t2, he with
    | 0, 0, 0, 0, _, _, _ => exact ⟨rfl, rfl⟩
    | 0, 0, 0, f' + 1, _, t2, he =>
      have h1 := (s3 _ (hsl0 f' t2)).2.2
      have he : h0 = ci_lk ar f' := he
      dsimp only at h1
      omega
    | 0, f + 1, 0, 0, t1, _, he =>
      have h1 := (s3 _ (hsl0 f t1)).2.2
      have he : ci_lk ar f = h0 := he
      dsimp only at h1
      omega
    | 0, f + 1, 0, f' + 1, t1, t2, he =>
      have := s4 _ (hsl0 f t1) _ (hsl0 f' t2) he
      dsimp only at this
      exact ⟨rfl, by rw [this]⟩
    | 0, 0, o' + 1, f', _, t2, he =>
      have h1 : (ab_cs x).heap.size ≤ ad o' f' := s6.2 _ _ (hslS _ _ t2)
      have he : h0 = ad o' f' := he
      omega
    | o + 1, f, 0, 0, t1, _, he =>
      have h1 : (ab_cs x).heap.size ≤ ad o f := s6.2 _ _ (hslS _ _ t1)
      have he : ad o f = h0 := he
      omega
    | 0, f + 1, o' + 1, f', t1, t2, he => exact absurd he.symm (s7 _ (hsl0 f t1) _ _ (hslS _ _ t2))
    | o + 1, f, 0, f' + 1, t1, t2, he => exact absurd he (s7 _ (hsl0 f' t2) _ _ (hslS _ _ t1))
    | o + 1, f, o' + 1, f', t1, t2, he =>
      obtain ⟨a, b⟩ := s6.1 _ _ _ _ (hslS _ _ t1) (hslS _ _ t2) he
      exact ⟨by rw [a], b⟩
  · match o, f, t1 with
    | 0, 0, _ => exact Or.inl rfl
    | 0, f + 1, ⟨c, hc, ha⟩ =>
      simp only [ab_at, Option.some.injEq] at hc
      subst hc
      exact Or.inr (s3 _ (hin f ha)).2.2
    | o + 1, 0, ⟨c, hc⟩ => exact Or.inr (s6.2 o 0 ⟨c, hc⟩)
    | o + 1, f + 1, ⟨c, hc, ha⟩ => exact Or.inr (s6.2 o (f + 1) ⟨c, hc, ha⟩)
/-- its end -/
theorem ci_end {M : ab_M} {d mc ms : Nat} {G' : List Nat} {ws' : List ab_Ob} {ad' : Nat → Nat → Nat} (hx : ci_At x M d mc ms h0 G' ws') (h00 : ad' 0 0 = h0) (F : ab_W (ab_cE x) ad' G' ws' H ∧ ab_ia ad' G' (fun q => q = h0 ∨ (ab_cs x).heap.size ≤ q)) (hS : va_S (ab_cA x) (ab_cs x).heap H locs) (hrt : ab_rt M = none) (hd : decode (ab_cd M) pc = .ok (.return_, 1)) (hr : kc ≤ mc ∧ ks ≤ ms) : ab_Wx x H locs kc ks (F0 (ab_cm x) pc ls []) := by
  obtain ⟨⟨rfl, rfl, rfl, rfl⟩, X, hA, hN, hQ⟩ := hx
  refine ab_W_to hQ ?_
  refine W.widen hr.1 hr.2 ?_
  refine W.vret X.ex X.cd (X.rt.trans hrt) (fun t ht _ => ⟨⟨rfl, ad', h00, by rw [ht]; exact F.1, F.2⟩, ?_⟩) hS.2.2 hd X.lk
  rw [hA] at hS
  exact hS.F ht
end
/-- a constructor's contract out of its walk -/
theorem ci_intro {M : ab_M} {ci d mc ms : Nat} {G : List Nat} {ws : List ab_Ob} {L : Nat → Int} (hm : ci_mok M ∧ plainName (ab_nm M).cls = true) (h : ∀ (x : ab_Cx) (h0 : Nat) (ls : Array Slot), ci_At x M d mc ms h0 G ws → ls[0]? = some (.val (.ref h0)) → ls.size = 1 → ci_S x h0 ci L (fun k => defaultValue (ab_ty ci k)) [] (fun _ _ => 0) [] [] (ab_cs x).heap [] → ab_Wx x (ab_cs x).heap [] 0 0 (F0 (ab_cm x) 0 ls [])) : ci_Ct (d + 1) mc ms M ci G ws := by
  obtain ⟨hm, hpl⟩ := hm
  refine ⟨hm, fun l E h0 sz => ?_⟩
  obtain ⟨⟨m1, m2, m3⟩, m4, m5, m6, m7⟩ := hm
  refine Met.ofW (cc := ab_cd M) (maxL := 1) (ret := none) (ws' := ab_gw) hpl (by unfold ab_ws; rw [m6, m7]) ?_
  intro p e s m args below meth c s₁ B hml hv
  obtain ⟨rfl, hsz, hO, hK, hN⟩ := hv
  subst hsz
  have hts : ∀ w ∈ ab_ws M, w.before ([.ref h0] : List Value).toArray s = true := atoms_spec (ws := ab_ws M) B.pre
  obtain ⟨x, hxe⟩ : ∃ x : ab_Cx, x = ((p, l, e, ab_rm (d + 1) mc ms, s, m, ([.ref h0] : List Value).toArray), (below, meth, c, MQ below (ci_Q E h0 s.heap.size G ws) ([.ref h0] : List Value).toArray s mc ms (fun q => q = h0 ∨ s.heap.size ≤ q)), (E, (fun _ _ => 0), M, (fun q => q = h0 ∨ s.heap.size ≤ q), d, mc, ms)) := ⟨_, rfl⟩
  have hx : ci_At x M d mc ms h0 G ws := by
    subst hxe
    refine ⟨⟨rfl, rfl, rfl, rfl⟩, ⟨B.exec, B.bytes, hml.trans m6.symm, findClass_of_methodNamed B.named, fun w hw => hts w (List.mem_cons_of_mem _ hw), B.returns.trans m7.symm, B.notSynchronized, hK, fun q hq => Or.inr hq, rfl⟩, rfl, ⟨?_, hN⟩, fun _ h => h⟩
    exact (name_of_methodNamed B.named B.method).1.trans m5
  have hl0 := lv_entry ([.ref h0]) (n := 1) (Nat.le_of_ble_eq_true rfl)
  rw [lg_entry_eq]
  generalize (lg_sl ([.ref h0]) ++ List.replicate (1 - (lg_sl ([.ref h0])).length) Slot.unset).toArray = ls at hl0 ⊢
  have hl0 : lv_has ls 1 [(0, .ref h0)] := hl0
  have hlt : h0 < s.heap.size := by
    obtain ⟨cell, q1, _⟩ := hO
    exact ci_hlt q1
  have key := h x h0 ls hx (lv_at hl0 0 rfl) hl0.1
  subst hxe
  refine key ⟨⟨hO, hlt⟩, ⟨fun q hq => (by cases hq), fun q hq => (by cases hq)⟩, ⟨⟨rfl, fun o ci ob g1 _ => (by simp [ab_at] at g1)⟩, ⟨fun o f o' f' s1 => ?_, fun o f s1 => ?_⟩, fun q hq => (by cases hq)⟩, va_S.rf⟩
  · match f, s1 with
    | 0, ⟨c, hc⟩ => simp [ab_at] at hc
    | f + 1, ⟨c, hc, _⟩ => simp [ab_at] at hc
  · match f, s1 with
    | 0, ⟨c, hc⟩ => simp [ab_at] at hc
    | f + 1, ⟨c, hc, _⟩ => simp [ab_at] at hc
