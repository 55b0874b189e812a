/-! THE LAW: what holds at its entry -/
def le_ix : List Nat := [77, 86, 91, 96, 104, 108, 115, 128, 130, 132, 134, 136]
def le_jx : List Nat := [179, 184, 189, 194, 200, 205, 211, 213, 215, 217, 219, 221]
def le_tm (i : Nat) : Term := .string "HeadTrees$Reader" (le_ix.getD i 0)
def le_tn (i : Nat) : Term := .string "HeadTreesModel" (le_jx.getD i 0)
def le_F : List Cond := flatC (Jvm.Cond.and given_1 narrow_1)
theorem le_1 : ∀ i : Fin 12, Cond.exactly (le_tm i.val) "java/lang/String" ∈ le_F ∧ Cond.eq (.field (le_tm i.val) "java/lang/String" "coder" "B") (.int 0) ∈ le_F ∧ Cond.arrayOf (.field (le_tm i.val) "java/lang/String" "value" "[B") .byte ∈ le_F ∧ Cond.eq (.length (.field (le_tm i.val) "java/lang/String" "value" "[B")) (.int (Int32.ofNat (ab_len.getD i.val 0))) ∈ le_F ∧ Cond.eq (le_tm i.val) (le_tn i.val) ∈ le_F := by decide +kernel
theorem le_2 : ∀ i : Fin 12, ∀ j : Fin 6, j.val < ab_len.getD i.val 0 → Cond.eq (.elem (.field (le_tm i.val) "java/lang/String" "value" "[B") (.int (Int32.ofNat j.val))) (.int ((ab_byt.getD i.val []).getD j.val 0)) ∈ le_F := by decide +kernel
def le_pt : List (List Nat) := [[0, 66, 91, 37, 46, 55, 78, 107, 124, 140, 157, 176], [66, 0, 95, 67, 68, 69, 82, 111, 128, 144, 161, 180], [91, 95, 0, 92, 93, 94, 96, 113, 130, 146, 163, 182], [37, 67, 92, 0, 47, 56, 79, 108, 125, 141, 158, 177], [46, 68, 93, 47, 0, 57, 80, 109, 126, 142, 159, 178], [55, 69, 94, 56, 57, 0, 81, 110, 127, 143, 160, 179], [78, 82, 96, 79, 80, 81, 0, 112, 129, 145, 162, 181], [107, 111, 113, 108, 109, 110, 112, 0, 131, 147, 164, 183], [124, 128, 130, 125, 126, 127, 129, 131, 0, 148, 165, 184], [140, 144, 146, 141, 142, 143, 145, 147, 148, 0, 166, 185], [157, 161, 163, 158, 159, 160, 162, 164, 165, 166, 0, 186], [176, 180, 182, 177, 178, 179, 181, 183, 184, 185, 186, 0]]
theorem le_3_0 : ∀ j : Fin 12, j.val ≠ 0 → le_F[(le_pt.getD 0 []).getD j.val 0]? = some (Cond.not (Cond.eq (le_tm 0) (le_tm j.val))) ∨ le_F[(le_pt.getD 0 []).getD j.val 0]? = some (Cond.not (Cond.eq (le_tm j.val) (le_tm 0))) := by decide +kernel
theorem le_3_1 : ∀ j : Fin 12, j.val ≠ 1 → le_F[(le_pt.getD 1 []).getD j.val 0]? = some (Cond.not (Cond.eq (le_tm 1) (le_tm j.val))) ∨ le_F[(le_pt.getD 1 []).getD j.val 0]? = some (Cond.not (Cond.eq (le_tm j.val) (le_tm 1))) := by decide +kernel
theorem le_3_2 : ∀ j : Fin 12, j.val ≠ 2 → le_F[(le_pt.getD 2 []).getD j.val 0]? = some (Cond.not (Cond.eq (le_tm 2) (le_tm j.val))) ∨ le_F[(le_pt.getD 2 []).getD j.val 0]? = some (Cond.not (Cond.eq (le_tm j.val) (le_tm 2))) := by decide +kernel
theorem le_3_3 : ∀ j : Fin 12, j.val ≠ 3 → le_F[(le_pt.getD 3 []).getD j.val 0]? = some (Cond.not (Cond.eq (le_tm 3) (le_tm j.val))) ∨ le_F[(le_pt.getD 3 []).getD j.val 0]? = some (Cond.not (Cond.eq (le_tm j.val) (le_tm 3))) := by decide +kernel
theorem le_3_4 : ∀ j : Fin 12, j.val ≠ 4 → le_F[(le_pt.getD 4 []).getD j.val 0]? = some (Cond.not (Cond.eq (le_tm 4) (le_tm j.val))) ∨ le_F[(le_pt.getD 4 []).getD j.val 0]? = some (Cond.not (Cond.eq (le_tm j.val) (le_tm 4))) := by decide +kernel
theorem le_3_5 : ∀ j : Fin 12, j.val ≠ 5 → le_F[(le_pt.getD 5 []).getD j.val 0]? = some (Cond.not (Cond.eq (le_tm 5) (le_tm j.val))) ∨ le_F[(le_pt.getD 5 []).getD j.val 0]? = some (Cond.not (Cond.eq (le_tm j.val) (le_tm 5))) := by decide +kernel
theorem le_3_6 : ∀ j : Fin 12, j.val ≠ 6 → le_F[(le_pt.getD 6 []).getD j.val 0]? = some (Cond.not (Cond.eq (le_tm 6) (le_tm j.val))) ∨ le_F[(le_pt.getD 6 []).getD j.val 0]? = some (Cond.not (Cond.eq (le_tm j.val) (le_tm 6))) := by decide +kernel
theorem le_3_7 : ∀ j : Fin 12, j.val ≠ 7 → le_F[(le_pt.getD 7 []).getD j.val 0]? = some (Cond.not (Cond.eq (le_tm 7) (le_tm j.val))) ∨ le_F[(le_pt.getD 7 []).getD j.val 0]? = some (Cond.not (Cond.eq (le_tm j.val) (le_tm 7))) := by decide +kernel
theorem le_3_8 : ∀ j : Fin 12, j.val ≠ 8 → le_F[(le_pt.getD 8 []).getD j.val 0]? = some (Cond.not (Cond.eq (le_tm 8) (le_tm j.val))) ∨ le_F[(le_pt.getD 8 []).getD j.val 0]? = some (Cond.not (Cond.eq (le_tm j.val) (le_tm 8))) := by decide +kernel
theorem le_3_9 : ∀ j : Fin 12, j.val ≠ 9 → le_F[(le_pt.getD 9 []).getD j.val 0]? = some (Cond.not (Cond.eq (le_tm 9) (le_tm j.val))) ∨ le_F[(le_pt.getD 9 []).getD j.val 0]? = some (Cond.not (Cond.eq (le_tm j.val) (le_tm 9))) := by decide +kernel
theorem le_3_10 : ∀ j : Fin 12, j.val ≠ 10 → le_F[(le_pt.getD 10 []).getD j.val 0]? = some (Cond.not (Cond.eq (le_tm 10) (le_tm j.val))) ∨ le_F[(le_pt.getD 10 []).getD j.val 0]? = some (Cond.not (Cond.eq (le_tm j.val) (le_tm 10))) := by decide +kernel
theorem le_3_11 : ∀ j : Fin 12, j.val ≠ 11 → le_F[(le_pt.getD 11 []).getD j.val 0]? = some (Cond.not (Cond.eq (le_tm 11) (le_tm j.val))) ∨ le_F[(le_pt.getD 11 []).getD j.val 0]? = some (Cond.not (Cond.eq (le_tm j.val) (le_tm 11))) := by decide +kernel
theorem le_3 : ∀ i j : Nat, i < 12 → j < 12 → i ≠ j → Cond.not (Cond.eq (le_tm i) (le_tm j)) ∈ le_F ∨ Cond.not (Cond.eq (le_tm j) (le_tm i)) ∈ le_F := by
  intro i j hi hj hij
  have go : ∀ p : Nat, (le_F[p]? = some (Cond.not (Cond.eq (le_tm i) (le_tm j))) ∨ le_F[p]? = some (Cond.not (Cond.eq (le_tm j) (le_tm i)))) → Cond.not (Cond.eq (le_tm i) (le_tm j)) ∈ le_F ∨ Cond.not (Cond.eq (le_tm j) (le_tm i)) ∈ le_F := fun p h => h.imp List.mem_of_getElem? List.mem_of_getElem?
  match i, hi with
  | 0, _ => exact go _ (le_3_0 ⟨j, hj⟩ (fun e => hij e.symm))
  | 1, _ => exact go _ (le_3_1 ⟨j, hj⟩ (fun e => hij e.symm))
  | 2, _ => exact go _ (le_3_2 ⟨j, hj⟩ (fun e => hij e.symm))
  | 3, _ => exact go _ (le_3_3 ⟨j, hj⟩ (fun e => hij e.symm))
  | 4, _ => exact go _ (le_3_4 ⟨j, hj⟩ (fun e => hij e.symm))
  | 5, _ => exact go _ (le_3_5 ⟨j, hj⟩ (fun e => hij e.symm))
  | 6, _ => exact go _ (le_3_6 ⟨j, hj⟩ (fun e => hij e.symm))
  | 7, _ => exact go _ (le_3_7 ⟨j, hj⟩ (fun e => hij e.symm))
  | 8, _ => exact go _ (le_3_8 ⟨j, hj⟩ (fun e => hij e.symm))
  | 9, _ => exact go _ (le_3_9 ⟨j, hj⟩ (fun e => hij e.symm))
  | 10, _ => exact go _ (le_3_10 ⟨j, hj⟩ (fun e => hij e.symm))
  | 11, _ => exact go _ (le_3_11 ⟨j, hj⟩ (fun e => hij e.symm))
theorem le_4 : ∀ i : Fin 12, ab_len.getD i.val 0 < 2 ^ 31 ∧ ab_len.getD i.val 0 ≤ 6 := by decide +kernel
theorem le_5 : Cond.eq (.static "java/lang/String" "COMPACT_STRINGS" "Z") (.int 1) ∈ le_F ∧ Cond.isRef (.static "jdk/internal/util/Preconditions" "SIOOBE_FORMATTER" "Ljava/util/function/BiFunction;") ∈ le_F ∧ Cond.isRef (.static Bundle.tN "UNASSIGNED_STACK" Bundle.steD) ∈ le_F ∧ Cond.isRef (.static Bundle.tN "SUPPRESSED_SENTINEL" Bundle.listD) ∈ le_F := by decide +kernel
theorem le_eqR {args : Array Value} {s : State} {t u : Term} {a : Nat} (h : (Cond.eq t u).before args s = true) (ht : t.eval args s none [] s = some (.ref a)) : u.eval args s none [] s = some (.ref a) := by
  cases hu : u.eval args s none [] s with
  | none => simp [Cond.before, Cond.holds, Cond.value, ht, hu] at h
  | some w =>
    cases w with
    | ref c =>
      simp [Cond.before, Cond.holds, Cond.value, ht, hu] at h
      first
        | rw [h]
        | rw [← h]
        | exact absurd h (by simp)
    | _ => simp [Cond.before, Cond.holds, Cond.value, ht, hu] at h
def le_wp : List Nat := [488, 556, 566, 545, 554, 555, 561, 575, 576, 577, 578, 579]
theorem le_str : ∀ q ∈ ab_sts, Cond.stringRef q.1 q.2.1 q.2.2.1 ∈ lw_tbl ∧ q.2.2.2 < 12 ∧ ((q.1 = "HeadTrees$Reader" ∧ q.2.1 = le_ix.getD q.2.2.2 0) ∨ (q.1 = "HeadTreesModel" ∧ q.2.1 = le_jx.getD q.2.2.2 0)) := by
  unfold ab_sts
  refine List.forall_mem_cons.mpr ⟨⟨List.mem_of_getElem? (i := 488) (by decide +kernel), by decide, by decide⟩, ?_⟩
  refine List.forall_mem_cons.mpr ⟨⟨List.mem_of_getElem? (i := 545) (by decide +kernel), by decide, by decide⟩, ?_⟩
  refine List.forall_mem_cons.mpr ⟨⟨List.mem_of_getElem? (i := 554) (by decide +kernel), by decide, by decide⟩, ?_⟩
  refine List.forall_mem_cons.mpr ⟨⟨List.mem_of_getElem? (i := 555) (by decide +kernel), by decide, by decide⟩, ?_⟩
  refine List.forall_mem_cons.mpr ⟨⟨List.mem_of_getElem? (i := 556) (by decide +kernel), by decide, by decide⟩, ?_⟩
  refine List.forall_mem_cons.mpr ⟨⟨List.mem_of_getElem? (i := 561) (by decide +kernel), by decide, by decide⟩, ?_⟩
  refine List.forall_mem_cons.mpr ⟨⟨List.mem_of_getElem? (i := 566) (by decide +kernel), by decide, by decide⟩, ?_⟩
  refine List.forall_mem_cons.mpr ⟨⟨List.mem_of_getElem? (i := 575) (by decide +kernel), by decide, by decide⟩, ?_⟩
  refine List.forall_mem_cons.mpr ⟨⟨List.mem_of_getElem? (i := 576) (by decide +kernel), by decide, by decide⟩, ?_⟩
  refine List.forall_mem_cons.mpr ⟨⟨List.mem_of_getElem? (i := 577) (by decide +kernel), by decide, by decide⟩, ?_⟩
  refine List.forall_mem_cons.mpr ⟨⟨List.mem_of_getElem? (i := 578) (by decide +kernel), by decide, by decide⟩, ?_⟩
  refine List.forall_mem_cons.mpr ⟨⟨List.mem_of_getElem? (i := 579) (by decide +kernel), by decide, by decide⟩, ?_⟩
  refine List.forall_mem_cons.mpr ⟨⟨List.mem_of_getElem? (i := 1392) (by decide +kernel), by decide, by decide⟩, ?_⟩
  refine List.forall_mem_cons.mpr ⟨⟨List.mem_of_getElem? (i := 1407) (by decide +kernel), by decide, by decide⟩, ?_⟩
  refine List.forall_mem_cons.mpr ⟨⟨List.mem_of_getElem? (i := 1416) (by decide +kernel), by decide, by decide⟩, ?_⟩
  refine List.forall_mem_cons.mpr ⟨⟨List.mem_of_getElem? (i := 1417) (by decide +kernel), by decide, by decide⟩, ?_⟩
  refine List.forall_mem_cons.mpr ⟨⟨List.mem_of_getElem? (i := 1418) (by decide +kernel), by decide, by decide⟩, ?_⟩
  refine List.forall_mem_cons.mpr ⟨⟨List.mem_of_getElem? (i := 1427) (by decide +kernel), by decide, by decide⟩, ?_⟩
  refine List.forall_mem_cons.mpr ⟨⟨List.mem_of_getElem? (i := 1428) (by decide +kernel), by decide, by decide⟩, ?_⟩
  refine List.forall_mem_cons.mpr ⟨⟨List.mem_of_getElem? (i := 1437) (by decide +kernel), by decide, by decide⟩, ?_⟩
  refine List.forall_mem_cons.mpr ⟨⟨List.mem_of_getElem? (i := 1438) (by decide +kernel), by decide, by decide⟩, ?_⟩
  refine List.forall_mem_cons.mpr ⟨⟨List.mem_of_getElem? (i := 1439) (by decide +kernel), by decide, by decide⟩, ?_⟩
  refine List.forall_mem_cons.mpr ⟨⟨List.mem_of_getElem? (i := 1440) (by decide +kernel), by decide, by decide⟩, ?_⟩
  refine List.forall_mem_cons.mpr ⟨⟨List.mem_of_getElem? (i := 1441) (by decide +kernel), by decide, by decide⟩, ?_⟩
  exact fun _ h => absurd h List.not_mem_nil
theorem le_arr {s : State} {b : Nat} (hts : ∀ w ∈ lw_tbl, w.before #[Value.ref b] s = true) (ty : FieldType) (hm : Cond.arrayClass ty ∈ lw_tbl) (hnr : ∀ C, ty ≠ .object C) : ∃ cA : ClassId, ArrOfT s cA ty ∧ s.vm.findClass ("[" ++ ty.toString) = some cA := by
  obtain ⟨c, k, comp, h1, h2, h3⟩ := Cond.arrayClass_spec (hts _ hm)
  exact ⟨c, fun n z => ⟨fun k h => (by cases h), k, h2, comp, h3⟩, h1⟩
/-- the classes, the rows' classes, the texts, the statics -/
theorem le_K {s : State} {b : Nat} (hts : ∀ w ∈ lw_tbl, w.before #[Value.ref b] s = true) (hgv : (Jvm.Cond.and given_1 narrow_1).before #[Value.ref b] s = true) : ∃ E : ab_E, ab_K E (fun q => s.heap.size ≤ q) s s.heap ∧ bl_E E ∧ E.2.2.1 12 = b := by
  have hF : ∀ w ∈ le_F, w.before #[Value.ref b] s = true := flat_of_before _ hgv
  have hA : ∀ a : Nat, a < s.heap.size → ¬ (fun q => s.heap.size ≤ q) a := fun a h => Nat.not_le.mpr h
  have hg : ∀ w ∈ ab_gw, w.before #[Value.ref b] s = true := fun w hw => hts w (List.mem_filter.mp hw).1
  obtain ⟨adK, adV, hS, hev⟩ := vk_Sof (args := #[Value.ref b]) (s := s) (N := 12) (tm := le_tm) (len := ab_len) (byt := ab_byt) (A := fun q => s.heap.size ≤ q) (fun i hi => (le_4 ⟨i, hi⟩).1) (fun i hi => hF _ (le_1 ⟨i, hi⟩).1) (fun i hi => hF _ (le_1 ⟨i, hi⟩).2.1) (fun i hi => hF _ (le_1 ⟨i, hi⟩).2.2.1) (fun i hi => hF _ (le_1 ⟨i, hi⟩).2.2.2.1) (fun i hi j hj => hF _ (le_2 ⟨i, hi⟩ ⟨j, Nat.lt_of_lt_of_le hj (le_4 ⟨i, hi⟩).2⟩ hj)) (fun i j hi hj hij => (le_3 i j hi hj hij).imp (hF _) (hF _)) hA
  have hcl : ∀ ci : Nat, ∃ q : ClassId × (Nat → Nat), ci < 10 → u_Kn s (ab_C ci) (ab_T ci) (ab_lay ci).length q.1 q.2 := by
    intro ci
    by_cases hc : ci < 10
    · have hin : ∃ n, Cond.instantiable (ab_C ci) n ∈ lw_tbl := by
        match ci, hc with
        | 0, _ => exact ⟨4, List.mem_of_getElem? (i := 232) (by decide +kernel)⟩
        | 1, _ => exact ⟨4, List.mem_of_getElem? (i := 255) (by decide +kernel)⟩
        | 2, _ => exact ⟨1, List.mem_of_getElem? (i := 275) (by decide +kernel)⟩
        | 3, _ => exact ⟨4, List.mem_of_getElem? (i := 367) (by decide +kernel)⟩
        | 4, _ => exact ⟨11, List.mem_of_getElem? (i := 127) (by decide +kernel)⟩
        | 5, _ => exact ⟨10, List.mem_of_getElem? (i := 133) (by decide +kernel)⟩
        | 6, _ => exact ⟨7, List.mem_of_getElem? (i := 335) (by decide +kernel)⟩
        | 7, _ => exact ⟨10, List.mem_of_getElem? (i := 286) (by decide +kernel)⟩
        | 8, _ => exact ⟨17, List.mem_of_getElem? (i := 119) (by decide +kernel)⟩
        | 9, _ => exact ⟨52, List.mem_of_getElem? (i := 1187) (by decide +kernel)⟩
      obtain ⟨n, hn⟩ := hin
      obtain ⟨cC, iS, hk⟩ := u_known (n := n) hg (ab_inl hc) (hts _ hn)
      exact ⟨(cC, iS), fun _ => hk⟩
    · exact ⟨(0, fun _ => 0), fun h => absurd h hc⟩
  obtain ⟨dq, hdq⟩ := Classical.axiomOfChoice hcl
  obtain ⟨a3, r3, f3⟩ := le_arr hts .int (List.mem_of_getElem? (i := 190) (by decide +kernel)) (fun _ h => by cases h)
  obtain ⟨a4, r4, f4⟩ := le_arr hts .byte (List.mem_of_getElem? (i := 189) (by decide +kernel)) (fun _ h => by cases h)
  obtain ⟨a5, r5, f5⟩ := le_arr hts .long (List.mem_of_getElem? (i := 284) (by decide +kernel)) (fun _ h => by cases h)
  obtain ⟨a6, r6, f6⟩ := le_arr hts .boolean (List.mem_of_getElem? (i := 228) (by decide +kernel)) (fun _ h => by cases h)
  refine ⟨((fun c => if c = 10 then a5 else (dq c).1, fun c k => if c = 10 then 0 else (dq c).2 k), (fun k => if k = 3 then a3 else if k = 4 then a4 else if k = 5 then a5 else a6), (fun n => if n < 12 then adK n else b), adV), ⟨⟨fun c q hq => ?_, fun k q hq => ?_⟩, ⟨fun i hi => ?_, fun i j hi hj e => ?_⟩, fun q hq => ?_, ?_, ?_⟩, ⟨rfl, rfl⟩, rfl⟩
  · have hc : c < 10 := by
      have := (List.getElem?_eq_some_iff.mp hq).1
      exact this
    have e := ab_cls hc
    rw [hq] at e
    cases e
    show u_Kn s _ _ _ (if c = 10 then a5 else (dq c).1) (fun k => if c = 10 then 0 else (dq c).2 k)
    have hne : ¬ c = 10 := by omega
    simp only [if_neg hne]
    exact hdq c hc
  · match k, hq with
    | 0, hq => cases hq; exact ⟨r3, f3⟩
    | 1, hq => cases hq; exact ⟨r4, f4⟩
    | 2, hq => cases hq; exact ⟨r5, f5⟩
    | 3, hq => cases hq; exact ⟨r6, f6⟩
    | k + 4, hq => simp [ab_tys] at hq
  · have := hS.1 i hi
    dsimp only
    rw [if_pos hi]
    exact this
  · dsimp only at e
    rw [if_pos hi, if_pos hj] at e
    exact hS.2 i j hi hj e
  · obtain ⟨h1, h2, h3⟩ := le_str q hq
    have ev := hev q.2.2.2 h2
    dsimp only
    rw [if_pos h2]
    rcases h3 with ⟨e1, e2⟩ | ⟨e1, e2⟩
    · refine vk_R.of (hts _ h1) ?_
      rw [e1, e2]
      exact ev
    · refine vk_R.of (hts _ h1) ?_
      rw [e1, e2]
      exact le_eqR (hF _ (le_1 ⟨q.2.2.2, h2⟩).2.2.2.2) ev
  · exact va_Zof (hts _ (List.mem_of_getElem? (i := 502) (by decide +kernel))) (hts _ (List.mem_of_getElem? (i := 110) (by decide +kernel))) (va_eqt (hF _ le_5.1)) hA
  · exact va_Zqof (hts _ (List.mem_of_getElem? (i := 518) (by decide +kernel))) (hts _ (List.mem_of_getElem? (i := 112) (by decide +kernel))) (hF _ le_5.2.1) hA
theorem le_bx {s : State} {b : Nat} (hts : ∀ w ∈ lw_tbl, w.before #[Value.ref b] s = true) (hgv : (Jvm.Cond.and given_1 narrow_1).before #[Value.ref b] s = true) : bx_K (fun q => s.heap.size ≤ q) s s.heap := by
  have hF : ∀ w ∈ le_F, w.before #[Value.ref b] s = true := flat_of_before _ hgv
  have hA : ∀ a : Nat, a < s.heap.size → ¬ (fun q => s.heap.size ≤ q) a := fun a h => Nat.not_le.mpr h
  refine ⟨bx_N_of (va_Nw.of rfl (hts _ (List.mem_of_getElem? (i := 1127) (by decide +kernel)))) (va_Nw.of rfl (hts _ (List.mem_of_getElem? (i := 1128) (by decide +kernel)))) (va_Nw.of rfl (hts _ (List.mem_of_getElem? (i := 1130) (by decide +kernel)))) (va_Nw.of rfl (hts _ (List.mem_of_getElem? (i := 1132) (by decide +kernel)))), ?_, ?_⟩
  · exact vx_Zqof (hts _ (List.mem_of_getElem? (i := 1152) (by decide +kernel))) (hts _ (List.mem_of_getElem? (i := 114) (by decide +kernel))) (hF _ le_5.2.2.1) hA
  · exact vx_Zqof (hts _ (List.mem_of_getElem? (i := 1154) (by decide +kernel))) (hts _ (List.mem_of_getElem? (i := 114) (by decide +kernel))) (hF _ le_5.2.2.2) hA
theorem le_N {s : State} {b : Nat} (hts : ∀ w ∈ lw_tbl, w.before #[Value.ref b] s = true) : ci_N s := by
  have h : ∀ q ∈ ci_ns, Cond.methodLinkNest q.1 q.2.1 q.2.2 "HeadTrees" ∈ lw_tbl := by
    unfold ci_ns
    refine List.forall_mem_cons.mpr ⟨List.mem_of_getElem? (i := 128) (by decide +kernel), ?_⟩
    refine List.forall_mem_cons.mpr ⟨List.mem_of_getElem? (i := 134) (by decide +kernel), ?_⟩
    refine List.forall_mem_cons.mpr ⟨List.mem_of_getElem? (i := 230) (by decide +kernel), ?_⟩
    refine List.forall_mem_cons.mpr ⟨List.mem_of_getElem? (i := 233) (by decide +kernel), ?_⟩
    refine List.forall_mem_cons.mpr ⟨List.mem_of_getElem? (i := 256) (by decide +kernel), ?_⟩
    refine List.forall_mem_cons.mpr ⟨List.mem_of_getElem? (i := 276) (by decide +kernel), ?_⟩
    refine List.forall_mem_cons.mpr ⟨List.mem_of_getElem? (i := 287) (by decide +kernel), ?_⟩
    refine List.forall_mem_cons.mpr ⟨List.mem_of_getElem? (i := 336) (by decide +kernel), ?_⟩
    refine List.forall_mem_cons.mpr ⟨List.mem_of_getElem? (i := 341) (by decide +kernel), ?_⟩
    refine List.forall_mem_cons.mpr ⟨List.mem_of_getElem? (i := 343) (by decide +kernel), ?_⟩
    refine List.forall_mem_cons.mpr ⟨List.mem_of_getElem? (i := 368) (by decide +kernel), ?_⟩
    exact fun _ h => absurd h List.not_mem_nil
  exact fun q hq => va_Nw.of rfl (hts _ (h q hq))
