theorem tt_2 {RT : Int × Int} {a t : Int} (e : RT = (a, t)) (h : t ≠ 4) : RT.2 ≠ 4 := by rw [e]; exact h
theorem tt_0 {RT : Int × Int} (e : RT.2 = 0) : RT.2 ≠ 4 := by rw [e]; decide
theorem tt_second {b : ab_Ob} {i j : Int} {RT : Int × Int} (h : an_sec b i j RT) : RT.2 ≠ 4 := by
  rcases h with ⟨_, e⟩ | ⟨_, ⟨_, e⟩ | ⟨_, e, _⟩⟩
  · exact tt_2 e (by decide)
  · exact tt_2 e (by decide)
  · exact tt_0 e
theorem tt_over {b : ab_Ob} {k o : Int} {RT : Int × Int} (h : an_over b k o RT) : RT.2 ≠ 4 := by
  rcases h with ⟨_, e⟩ | ⟨_, _, _, e⟩
  · exact tt_2 e (by decide)
  · exact tt_2 e (by decide)
theorem tt_under {b : ab_Ob} {k : Int} {RT : Int × Int} (h : an_under b k RT) : RT.2 ≠ 4 := by
  rcases h with ⟨_, e⟩ | ⟨_, _, _, _, e⟩
  · exact tt_2 e (by decide)
  · exact tt_2 e (by decide)
theorem tt_reach {b : ab_Ob} {k w : Int} {RT : Int × Int} (h : an_reach b k w RT) : RT.2 ≠ 4 := by
  rcases h with ⟨_, e⟩ | ⟨_, _, _, _, e⟩
  · exact tt_2 e (by decide)
  · exact tt_2 e (by decide)
theorem tt_twins {b : ab_Ob} {i j n : Int} {RT : Int × Int} (h : an_twins b i j n RT) : RT.2 ≠ 4 := by
  rcases h with ⟨_, e⟩ | ⟨_, ⟨_, e⟩ | ⟨_, e⟩⟩
  · exact tt_2 e (by decide)
  · exact tt_2 e (by decide)
  · exact tt_2 e (by decide)
theorem tt_twin {b : ab_Ob} {w : Int} {RT : Int × Int} (h : an_twin b w RT) : RT.2 ≠ 4 := by
  rcases h with ⟨_, e⟩ | ⟨_, ⟨_, _, _, _, _, e⟩ | ⟨_, e⟩⟩
  · exact tt_2 e (by decide)
  · exact tt_2 e (by decide)
  · exact tt_2 e (by decide)
theorem tt_swayed {b : ab_Ob} {r v : Int} {RT : Int × Int} (h : an_swayed b r v RT) : RT.2 ≠ 4 := by
  rcases h with ⟨_, e⟩ | ⟨_, ⟨_, e⟩ | ⟨_, e⟩⟩
  · exact tt_2 e (by decide)
  · exact tt_2 e (by decide)
  · exact tt_2 e (by decide)
theorem tt_sways {b : ab_Ob} {r v : Int} {RT : Int × Int} (h : an_sways b r v RT) : RT.2 ≠ 4 := by
  rcases h with ⟨_, e⟩ | ⟨_, e, _⟩
  · exact tt_2 e (by decide)
  · exact tt_0 e
theorem tt_firm {b : ab_Ob} {r v : Int} {RT : Int × Int} (h : an_firm b r v RT) : RT.2 ≠ 4 := by
  rcases h with ⟨_, e⟩ | ⟨_, e, _⟩
  · exact tt_2 e (by decide)
  · exact tt_0 e
theorem tt_alike {b : ab_Ob} {i j n : Int} {RT : Int × Int} (h : an_alike b i j n RT) : RT.2 ≠ 4 := by
  rcases h with ⟨_, e⟩ | ⟨_, ⟨_, e⟩ | ⟨_, e⟩⟩
  · exact tt_2 e (by decide)
  · exact tt_2 e (by decide)
  · exact tt_2 e (by decide)
theorem tt_unlike {b : ab_Ob} {K : Prop} {c : Int → Int → Int → Int → Int} {w : Int} {RT : Int × Int} (h : an_unlike b K c w RT) : RT.2 ≠ 4 := by
  rcases h with ⟨_, e⟩ | ⟨_, e⟩
  · exact tt_2 e (by decide)
  · exact tt_2 e (by decide)
theorem tt_keptBreaks {b : ab_Ob} {K : Prop} {c : Int → Int → Int → Int → Int} {RT : Int × Int} (h : an_keptBreaks b K c RT) : RT.2 ≠ 4 := by
  rcases h with ⟨_, e⟩ | ⟨_, e⟩
  · exact tt_2 e (by decide)
  · exact tt_2 e (by decide)
/-! each question, both sides -/
theorem tt_about {b : ab_Ob} {what : Int} : (an_about b what).2 ≠ 4 := by
  unfold an_about
  repeat' split
  all_goals (first | exact (by decide : (0 : Int) ≠ 4) | exact (by decide : (1 : Int) ≠ 4) | exact (by decide : (2 : Int) ≠ 4))
theorem s_about (d : Nat) {x rd dr b ac sp cn wh sw swc swt kp t1 t2 ly wi m : ab_Ob} (h : hR x rd dr b ac sp cn wh sw swc swt kp t1 t2 ly wi m) (what : Int) : sim ab_I (d + 12) (d + 12) mX8_about mX9_about [ab_I what] x rd dr b ac sp cn wh sw swc swt kp t1 t2 ly wi m :=
  sim_q h (h_about (d + 3) h.1 h.2.1 what) (fun RT e => by rw [e]; exact c9_about (d + 9) h.2.2.2.2.1 what) (fun RT e => by rw [e]; exact tt_about)
theorem tt_note {b : ab_Ob} {k what : Int} : (an_note b k what).2 ≠ 4 := by
  unfold an_note
  repeat' split
  all_goals (first | exact (by decide : (0 : Int) ≠ 4) | exact (by decide : (1 : Int) ≠ 4) | exact (by decide : (2 : Int) ≠ 4))
theorem s_note (d : Nat) {x rd dr b ac sp cn wh sw swc swt kp t1 t2 ly wi m : ab_Ob} (h : hR x rd dr b ac sp cn wh sw swc swt kp t1 t2 ly wi m) (k what : Int) : sim ab_I (d + 12) (d + 12) mX8_note mX9_note [ab_I k, ab_I what] x rd dr b ac sp cn wh sw swc swt kp t1 t2 ly wi m :=
  sim_q h (h_note (d + 3) h.1 h.2.1 k what) (fun RT e => by rw [e]; exact c9_note (d + 9) h.2.2.2.2.1 k what) (fun RT e => by rw [e]; exact tt_note)
theorem tt_weight {b : ab_Ob} {r : Int} : (an_weight b r).2 ≠ 4 := by
  unfold an_weight
  repeat' split
  all_goals (first | exact (by decide : (0 : Int) ≠ 4) | exact (by decide : (1 : Int) ≠ 4) | exact (by decide : (2 : Int) ≠ 4))
theorem s_weight (d : Nat) {x rd dr b ac sp cn wh sw swc swt kp t1 t2 ly wi m : ab_Ob} (h : hR x rd dr b ac sp cn wh sw swc swt kp t1 t2 ly wi m) (r : Int) : sim ab_I (d + 12) (d + 12) mX8_weight mX9_weight [ab_I r] x rd dr b ac sp cn wh sw swc swt kp t1 t2 ly wi m :=
  sim_q h (h_weight (d + 3) h.1 h.2.1 r) (fun RT e => by rw [e]; exact c9_weight (d + 9) h.2.2.2.2.1 r) (fun RT e => by rw [e]; exact tt_weight)
theorem tt_breaks {b : ab_Ob} {i j : Int} : (an_breaks b i j).2 ≠ 4 := by
  unfold an_breaks
  repeat' split
  all_goals (first | exact (by decide : (0 : Int) ≠ 4) | exact (by decide : (1 : Int) ≠ 4) | exact (by decide : (2 : Int) ≠ 4))
theorem s_breaks (d : Nat) {x rd dr b ac sp cn wh sw swc swt kp t1 t2 ly wi m : ab_Ob} (h : hR x rd dr b ac sp cn wh sw swc swt kp t1 t2 ly wi m) (i j : Int) : sim ab_I (d + 12) (d + 12) mX8_breaks mX9_breaks [ab_I i, ab_I j] x rd dr b ac sp cn wh sw swc swt kp t1 t2 ly wi m :=
  sim_q h (h_breaks (d + 3) h.1 h.2.1 i j) (fun RT e => by rw [e]; exact c9_breaks (d + 8) h.2.2.2.2.1 i j) (fun RT e => by rw [e]; exact tt_breaks)
theorem tt_head {b : ab_Ob} {i j : Int} : (an_head b i j).2 ≠ 4 := by
  unfold an_head
  repeat' split
  all_goals (first | exact (by decide : (0 : Int) ≠ 4) | exact (by decide : (1 : Int) ≠ 4) | exact (by decide : (2 : Int) ≠ 4))
theorem s_head (d : Nat) {x rd dr b ac sp cn wh sw swc swt kp t1 t2 ly wi m : ab_Ob} (h : hR x rd dr b ac sp cn wh sw swc swt kp t1 t2 ly wi m) (i j : Int) : sim ab_I (d + 12) (d + 12) mX8_head mX9_head [ab_I i, ab_I j] x rd dr b ac sp cn wh sw swc swt kp t1 t2 ly wi m :=
  sim_q h (h_head (d + 3) h.1 h.2.1 i j) (fun RT e => by rw [e]; exact c9_head (d + 8) h.2.2.2.2.1 i j) (fun RT e => by rw [e]; exact tt_head)
theorem tt_split {b : ab_Ob} {i j : Int} : (an_split b i j).2 ≠ 4 := by
  unfold an_split
  repeat' split
  all_goals (first | exact (by decide : (0 : Int) ≠ 4) | exact (by decide : (1 : Int) ≠ 4) | exact (by decide : (2 : Int) ≠ 4))
theorem s_split (d : Nat) {x rd dr b ac sp cn wh sw swc swt kp t1 t2 ly wi m : ab_Ob} (h : hR x rd dr b ac sp cn wh sw swc swt kp t1 t2 ly wi m) (i j : Int) : sim ab_I (d + 12) (d + 12) mX8_split mX9_split [ab_I i, ab_I j] x rd dr b ac sp cn wh sw swc swt kp t1 t2 ly wi m :=
  sim_q h (h_split (d + 3) h.1 h.2.1 i j) (fun RT e => by rw [e]; exact c9_split (d + 8) h.2.2.2.2.1 i j) (fun RT e => by rw [e]; exact tt_split)
theorem tt_breaksBy {b : ab_Ob} {i j k : Int} : (an_breaksBy b i j k).2 ≠ 4 := by
  unfold an_breaksBy
  repeat' split
  all_goals (first | exact (by decide : (0 : Int) ≠ 4) | exact (by decide : (1 : Int) ≠ 4) | exact (by decide : (2 : Int) ≠ 4))
theorem s_breaksBy (d : Nat) {x rd dr b ac sp cn wh sw swc swt kp t1 t2 ly wi m : ab_Ob} (h : hR x rd dr b ac sp cn wh sw swc swt kp t1 t2 ly wi m) (i j k : Int) : sim ab_I (d + 12) (d + 12) mX8_breaksBy mX9_breaksBy [ab_I i, ab_I j, ab_I k] x rd dr b ac sp cn wh sw swc swt kp t1 t2 ly wi m :=
  sim_q h (h_breaksBy (d + 3) h.1 h.2.1 i j k) (fun RT e => by rw [e]; exact c9_breaksBy (d + 8) h.2.2.2.2.1 i j k) (fun RT e => by rw [e]; exact tt_breaksBy)
theorem tt_splitCost {b : ab_Ob} {i j k : Int} : (an_splitCost b i j k).2 ≠ 4 := by
  unfold an_splitCost
  repeat' split
  all_goals (first | exact (by decide : (0 : Int) ≠ 4) | exact (by decide : (1 : Int) ≠ 4) | exact (by decide : (2 : Int) ≠ 4))
theorem s_splitCost (d : Nat) {x rd dr b ac sp cn wh sw swc swt kp t1 t2 ly wi m : ab_Ob} (h : hR x rd dr b ac sp cn wh sw swc swt kp t1 t2 ly wi m) (i j k : Int) : sim ab_I (d + 12) (d + 12) mX8_splitCost mX9_splitCost [ab_I i, ab_I j, ab_I k] x rd dr b ac sp cn wh sw swc swt kp t1 t2 ly wi m :=
  sim_q h (h_splitCost (d + 3) h.1 h.2.1 i j k) (fun RT e => by rw [e]; exact c9_splitCost (d + 7) h.2.2.2.2.1 i j k) (fun RT e => by rw [e]; exact tt_splitCost)
theorem tt_broken {b : ab_Ob} {r hd u l q : Int} : (an_broken b r hd u l q).2 ≠ 4 := by
  unfold an_broken
  repeat' split
  all_goals (first | exact (by decide : (0 : Int) ≠ 4) | exact (by decide : (1 : Int) ≠ 4) | exact (by decide : (2 : Int) ≠ 4))
theorem s_broken (d : Nat) {x rd dr b ac sp cn wh sw swc swt kp t1 t2 ly wi m : ab_Ob} (h : hR x rd dr b ac sp cn wh sw swc swt kp t1 t2 ly wi m) (r hd u l q : Int) : sim ab_I (d + 12) (d + 12) mX8_broken mX9_broken [ab_I r, ab_I hd, ab_I u, ab_I l, ab_I q] x rd dr b ac sp cn wh sw swc swt kp t1 t2 ly wi m :=
  sim_q h (h_broken (d + 3) h.1 h.2.1 r hd u l q) (fun RT e => by rw [e]; exact c9_broken (d + 9) h.2.2.2.2.1 r hd u l q) (fun RT e => by rw [e]; exact tt_broken)
theorem tt_joinings {b : ab_Ob} : (an_joinings b).2 ≠ 4 := by
  unfold an_joinings
  repeat' split
  all_goals (first | exact (by decide : (0 : Int) ≠ 4) | exact (by decide : (1 : Int) ≠ 4) | exact (by decide : (2 : Int) ≠ 4))
theorem s_joinings (d : Nat) {x rd dr b ac sp cn wh sw swc swt kp t1 t2 ly wi m : ab_Ob} (h : hR x rd dr b ac sp cn wh sw swc swt kp t1 t2 ly wi m) : sim ab_I (d + 12) (d + 12) mX8_joinings mX9_joinings [] x rd dr b ac sp cn wh sw swc swt kp t1 t2 ly wi m :=
  sim_q h (h_joinings (d + 3) h.1 h.2.1) (fun RT e => by rw [e]; exact c9_joinings (d + 9) h.2.2.2.2.1) (fun RT e => by rw [e]; exact tt_joinings)
theorem tt_joining {b : ab_Ob} {i what : Int} : (an_joining b i what).2 ≠ 4 := by
  unfold an_joining an_joinE
  repeat' split
  all_goals (first | exact (by decide : (0 : Int) ≠ 4) | exact (by decide : (1 : Int) ≠ 4) | exact (by decide : (2 : Int) ≠ 4))
theorem s_joining (d : Nat) {x rd dr b ac sp cn wh sw swc swt kp t1 t2 ly wi m : ab_Ob} (h : hR x rd dr b ac sp cn wh sw swc swt kp t1 t2 ly wi m) (i what : Int) : sim ab_I (d + 12) (d + 12) mX8_joining mX9_joining [ab_I i, ab_I what] x rd dr b ac sp cn wh sw swc swt kp t1 t2 ly wi m :=
  sim_q h (h_joining (d + 3) h.1 h.2.1 i what) (fun RT e => by rw [e]; exact c9_joining (d + 7) h.2.2.2.2.1 i what) (fun RT e => by rw [e]; exact tt_joining)
theorem tt_breaksOf {b : ab_Ob} {r : Int} : (an_breaksOf b r).2 ≠ 4 := by
  unfold an_breaksOf
  repeat' split
  all_goals (first | exact (by decide : (0 : Int) ≠ 4) | exact (by decide : (1 : Int) ≠ 4) | exact (by decide : (2 : Int) ≠ 4))
theorem s_breaksOf (d : Nat) {x rd dr b ac sp cn wh sw swc swt kp t1 t2 ly wi m : ab_Ob} (h : hR x rd dr b ac sp cn wh sw swc swt kp t1 t2 ly wi m) (r : Int) : sim ab_I (d + 12) (d + 12) mX8_breaksOf mX9_breaksOf [ab_I r] x rd dr b ac sp cn wh sw swc swt kp t1 t2 ly wi m :=
  sim_q h (h_breaksOf (d + 3) h.1 h.2.1 r) (fun RT e => by rw [e]; exact c9_breaksOf (d + 7) h.2.2.2.2.1 r) (fun RT e => by rw [e]; exact tt_breaksOf)
theorem tt_deepest {b : ab_Ob} : (an_deepest b).2 ≠ 4 := by
  unfold an_deepest
  repeat' split
  all_goals (first | exact (by decide : (0 : Int) ≠ 4) | exact (by decide : (1 : Int) ≠ 4) | exact (by decide : (2 : Int) ≠ 4))
theorem s_deepest (d : Nat) {x rd dr b ac sp cn wh sw swc swt kp t1 t2 ly wi m : ab_Ob} (h : hR x rd dr b ac sp cn wh sw swc swt kp t1 t2 ly wi m) : sim ab_I (d + 12) (d + 12) mX8_deepest mX9_deepest [] x rd dr b ac sp cn wh sw swc swt kp t1 t2 ly wi m :=
  sim_q h (h_deepest (d + 3) h.1 h.2.1) (fun RT e => by rw [e]; exact c9_deepest (d + 10) h.2.2.2.2.1) (fun RT e => by rw [e]; exact tt_deepest)
theorem tt_level {b : ab_Ob} {dd : Int} : (an_level b dd).2 ≠ 4 := by
  unfold an_level an_lvl
  repeat' split
  all_goals (first | exact (by decide : (0 : Int) ≠ 4) | exact (by decide : (1 : Int) ≠ 4) | exact (by decide : (2 : Int) ≠ 4))
theorem s_level (d : Nat) {x rd dr b ac sp cn wh sw swc swt kp t1 t2 ly wi m : ab_Ob} (h : hR x rd dr b ac sp cn wh sw swc swt kp t1 t2 ly wi m) (dd : Int) : sim ab_I (d + 12) (d + 12) mX8_levelB mX9_level [ab_I dd] x rd dr b ac sp cn wh sw swc swt kp t1 t2 ly wi m :=
  sim_q h (h_level (d + 3) h.1 h.2.1 dd) (fun RT e => by rw [e]; exact c9_level (d + 8) h.2.2.2.2.1 dd) (fun RT e => by rw [e]; exact tt_level)
theorem tt_levelNote {b : ab_Ob} {dd k what : Int} : (an_levelNote b dd k what).2 ≠ 4 := by
  unfold an_levelNote an_lvl an_lnE
  dsimp only
  repeat' split
  all_goals (first | exact (by decide : (0 : Int) ≠ 4) | exact (by decide : (1 : Int) ≠ 4) | exact (by decide : (2 : Int) ≠ 4))
theorem s_levelNote (d : Nat) {x rd dr b ac sp cn wh sw swc swt kp t1 t2 ly wi m : ab_Ob} (h : hR x rd dr b ac sp cn wh sw swc swt kp t1 t2 ly wi m) (dd k what : Int) : sim ab_I (d + 12) (d + 12) mX8_levelNoteB mX9_levelNote [ab_I dd, ab_I k, ab_I what] x rd dr b ac sp cn wh sw swc swt kp t1 t2 ly wi m :=
  sim_q h (h_levelNote (d + 3) h.1 h.2.1 dd k what) (fun RT e => by rw [e]; exact c9_levelNote (d + 8) h.2.2.2.2.1 dd k what) (fun RT e => by rw [e]; exact tt_levelNote)
theorem tt_path {b : ab_Ob} {dd : Int} : (an_path b dd).2 ≠ 4 := by
  unfold an_path an_lvl
  repeat' split
  all_goals (first | exact (by decide : (0 : Int) ≠ 4) | exact (by decide : (1 : Int) ≠ 4) | exact (by decide : (2 : Int) ≠ 4))
theorem s_path (d : Nat) {x rd dr b ac sp cn wh sw swc swt kp t1 t2 ly wi m : ab_Ob} (h : hR x rd dr b ac sp cn wh sw swc swt kp t1 t2 ly wi m) (dd : Int) : sim ab_I (d + 12) (d + 12) mX8_pathB mX9_path [ab_I dd] x rd dr b ac sp cn wh sw swc swt kp t1 t2 ly wi m :=
  sim_q h (h_path (d + 3) h.1 h.2.1 dd) (fun RT e => by rw [e]; exact c9_path (d + 8) h.2.2.2.2.1 dd) (fun RT e => by rw [e]; exact tt_path)
theorem tt_widest {b : ab_Ob} {dd : Int} : (an_widest b dd).2 ≠ 4 := by
  unfold an_widest an_lvl
  repeat' split
  all_goals (first | exact (by decide : (0 : Int) ≠ 4) | exact (by decide : (1 : Int) ≠ 4) | exact (by decide : (2 : Int) ≠ 4))
theorem s_widest (d : Nat) {x rd dr b ac sp cn wh sw swc swt kp t1 t2 ly wi m : ab_Ob} (h : hR x rd dr b ac sp cn wh sw swc swt kp t1 t2 ly wi m) (dd : Int) : sim ab_I (d + 12) (d + 12) mX8_widestB mX9_widest [ab_I dd] x rd dr b ac sp cn wh sw swc swt kp t1 t2 ly wi m :=
  sim_q h (h_widest (d + 3) h.1 h.2.1 dd) (fun RT e => by rw [e]; exact c9_widest (d + 7) h.2.2.2.2.1 dd) (fun RT e => by rw [e]; exact tt_widest)
theorem tt_climax {b : ab_Ob} {dd : Int} : (an_climax b dd).2 ≠ 4 := by
  unfold an_climax an_lvl
  repeat' split
  all_goals (first | exact (by decide : (0 : Int) ≠ 4) | exact (by decide : (1 : Int) ≠ 4) | exact (by decide : (2 : Int) ≠ 4))
theorem s_climax (d : Nat) {x rd dr b ac sp cn wh sw swc swt kp t1 t2 ly wi m : ab_Ob} (h : hR x rd dr b ac sp cn wh sw swc swt kp t1 t2 ly wi m) (dd : Int) : sim ab_I (d + 12) (d + 12) mX8_climaxB mX9_climax [ab_I dd] x rd dr b ac sp cn wh sw swc swt kp t1 t2 ly wi m :=
  sim_q h (h_climax (d + 3) h.1 h.2.1 dd) (fun RT e => by rw [e]; exact c9_climax (d + 8) h.2.2.2.2.1 dd) (fun RT e => by rw [e]; exact tt_climax)
theorem tt_echo {b : ab_Ob} {dd ee : Int} : (an_echo b dd ee).2 ≠ 4 := by
  unfold an_echo
  repeat' split
  all_goals (first | exact (by decide : (0 : Int) ≠ 4) | exact (by decide : (1 : Int) ≠ 4) | exact (by decide : (2 : Int) ≠ 4))
theorem s_echo (d : Nat) {x rd dr b ac sp cn wh sw swc swt kp t1 t2 ly wi m : ab_Ob} (h : hR x rd dr b ac sp cn wh sw swc swt kp t1 t2 ly wi m) (dd ee : Int) : sim ab_I (d + 12) (d + 12) mX8_echoB mX9_echo [ab_I dd, ab_I ee] x rd dr b ac sp cn wh sw swc swt kp t1 t2 ly wi m :=
  sim_q h (h_echo (d + 3) h.1 h.2.1 dd ee) (fun RT e => by rw [e]; exact c9_echo (d + 7) h.2.2.2.2.1 dd ee) (fun RT e => by rw [e]; exact tt_echo)
theorem s_second (d : Nat) {x rd dr b ac sp cn wh sw swc swt kp t1 t2 ly wi m : ab_Ob} (h : hR x rd dr b ac sp cn wh sw swc swt kp t1 t2 ly wi m) (i j : Int) : sim ab_I (d + 12) (d + 12) mX8_second mX9_second [ab_I i, ab_I j] x rd dr b ac sp cn wh sw swc swt kp t1 t2 ly wi m :=
  sim_q h (h_second (d + 3) h.1 h.2.1 i j) (fun RT e => c9_second (d + 8) h.2.2.2.2.1 i j e) (fun RT e => tt_second e)
theorem s_over (d : Nat) {x rd dr b ac sp cn wh sw swc swt kp t1 t2 ly wi m : ab_Ob} (h : hR x rd dr b ac sp cn wh sw swc swt kp t1 t2 ly wi m) (k o : Int) : sim ab_I (d + 12) (d + 12) mX8_over mX9_over [ab_I k, ab_I o] x rd dr b ac sp cn wh sw swc swt kp t1 t2 ly wi m :=
  sim_q h (h_over (d + 3) h.1 h.2.1 k o) (fun RT e => c9_over (d + 9) h.2.2.2.2.1 k o e) (fun RT e => tt_over e)
theorem s_under (d : Nat) {x rd dr b ac sp cn wh sw swc swt kp t1 t2 ly wi m : ab_Ob} (h : hR x rd dr b ac sp cn wh sw swc swt kp t1 t2 ly wi m) (k : Int) : sim ab_I (d + 12) (d + 12) mX8_under mX9_under [ab_I k] x rd dr b ac sp cn wh sw swc swt kp t1 t2 ly wi m :=
  sim_q h (h_under (d + 3) h.1 h.2.1 k) (fun RT e => c9_under (d + 9) h.2.2.2.2.1 k e) (fun RT e => tt_under e)
theorem s_reach (d : Nat) {x rd dr b ac sp cn wh sw swc swt kp t1 t2 ly wi m : ab_Ob} (h : hR x rd dr b ac sp cn wh sw swc swt kp t1 t2 ly wi m) (k what : Int) : sim ab_I (d + 12) (d + 12) mX8_reach mX9_reach [ab_I k, ab_I what] x rd dr b ac sp cn wh sw swc swt kp t1 t2 ly wi m :=
  sim_q h (h_reach (d + 3) h.1 h.2.1 k what) (fun RT e => c9_reach (d + 9) h.2.2.2.2.1 k what e) (fun RT e => tt_reach e)
theorem s_twins (d : Nat) {x rd dr b ac sp cn wh sw swc swt kp t1 t2 ly wi m : ab_Ob} (h : hR x rd dr b ac sp cn wh sw swc swt kp t1 t2 ly wi m) (i j n : Int) : sim ab_I (d + 12) (d + 12) mX8_twins mX9_twins [ab_I i, ab_I j, ab_I n] x rd dr b ac sp cn wh sw swc swt kp t1 t2 ly wi m :=
  sim_q h (h_twins (d + 3) h.1 h.2.1 i j n) (fun RT e => c9_twins (d + 9) h.2.2.2.2.1 i j n e) (fun RT e => tt_twins e)
theorem s_twin (d : Nat) {x rd dr b ac sp cn wh sw swc swt kp t1 t2 ly wi m : ab_Ob} (h : hR x rd dr b ac sp cn wh sw swc swt kp t1 t2 ly wi m) (what : Int) : sim ab_I (d + 12) (d + 12) mX8_twin mX9_twin [ab_I what] x rd dr b ac sp cn wh sw swc swt kp t1 t2 ly wi m :=
  sim_q h (h_twin (d + 3) h.1 h.2.1 what) (fun RT e => c9_twin (d + 9) h.2.2.2.2.1 what e) (fun RT e => tt_twin e)
theorem s_swayed (d : Nat) {x rd dr b ac sp cn wh sw swc swt kp t1 t2 ly wi m : ab_Ob} (h : hR x rd dr b ac sp cn wh sw swc swt kp t1 t2 ly wi m) (r v : Int) : sim ab_I (d + 12) (d + 12) mX8_swayed mX9_swayed [ab_I r, ab_I v] x rd dr b ac sp cn wh sw swc swt kp t1 t2 ly wi m :=
  sim_f h (h_swayed (d + 3) h.1 h.2.1 r v) (fun RT e => c9_swayed (d + 3) h.2.2.2.2.1 r v e) (fun RT e => tt_swayed e)
theorem s_sways (d : Nat) {x rd dr b ac sp cn wh sw swc swt kp t1 t2 ly wi m : ab_Ob} (h : hR x rd dr b ac sp cn wh sw swc swt kp t1 t2 ly wi m) (r k : Int) : sim ab_I (d + 12) (d + 12) mX8_sways mX9_sways [ab_I r, ab_I k] x rd dr b ac sp cn wh sw swc swt kp t1 t2 ly wi m :=
  sim_f h (h_sways (d + 3) h.1 h.2.1 r k) (fun RT e => c9_sways (d + 3) h.2.2.2.2.1 r k e) (fun RT e => tt_sways e)
theorem s_alike (d : Nat) {x rd dr b ac sp cn wh sw swc swt kp t1 t2 ly wi m : ab_Ob} (h : hR x rd dr b ac sp cn wh sw swc swt kp t1 t2 ly wi m) (i j n : Int) : sim ab_I (d + 12) (d + 12) mX8_alike mX9_alike [ab_I i, ab_I j, ab_I n] x rd dr b ac sp cn wh sw swc swt kp t1 t2 ly wi m :=
  sim_f h (h_alike (d + 3) h.1 h.2.1 i j n) (fun RT e => c9_alike (d + 8) h.2.2.2.2.1 i j n e) (fun RT e => tt_alike e)
theorem tt_ways {b : ab_Ob} {i j : Int} : (an_ways b i j).2 ≠ 4 := by
  unfold an_ways
  split
  · exact (by decide : (0 : Int) ≠ 4)
  · exact (by decide : (1 : Int) ≠ 4)
theorem s_ways (d : Nat) {x rd dr b ac sp cn wh sw swc swt kp t1 t2 ly wi m : ab_Ob} (h : hR x rd dr b ac sp cn wh sw swc swt kp t1 t2 ly wi m) (i j : Int) : sim ab_L (d + 12) (d + 12) mX8_ways mX9_ways [ab_I i, ab_I j] x rd dr b ac sp cn wh sw swc swt kp t1 t2 ly wi m :=
  sim_ql h (h_ways (d + 3) h.1 h.2.1 i j) (fun RT e => by rw [e]; exact c9_ways (d + 8) h.2.2.2.2.1 i j) (fun RT e => by rw [e]; exact tt_ways)
theorem s_firm (d : Nat) {x rd dr b ac sp cn wh sw swc swt kp t1 t2 ly wi m : ab_Ob} (h : hR x rd dr b ac sp cn wh sw swc swt kp t1 t2 ly wi m) (r up : Int) : sim ab_I (d + 12) (d + 12) mX8_firm mX9_firm [ab_I r, ab_I up] x rd dr b ac sp cn wh sw swc swt kp t1 t2 ly wi m :=
  sim_f h (h_firm (d + 3) h.1 h.2.1 r up) (fun RT e => c9_firm (d + 3) h.2.2.2.2.1 h.2.2.2.2.2.1.2.2.2.1 r up e) (fun RT e => tt_firm e)
theorem s_unlike (d : Nat) {x rd dr b ac sp cn wh sw swc swt kp t1 t2 ly wi m : ab_Ob} (h : hR x rd dr b ac sp cn wh sw swc swt kp t1 t2 ly wi m) (what : Int) : sim ab_I (d + 12) (d + 12) mX8_unlike mX9_unlike [ab_I what] x rd dr b ac sp cn wh sw swc swt kp t1 t2 ly wi m := by
  obtain ⟨c', k1, k2⟩ := h.2.2.2.2.2.2.2.2.2
  exact sim_q h (h_unlike (d + 3) h.1 h.2.1 k2 what) (fun RT e => c9_unlike (d + 10) h.2.2.2.2.1 k1 what e) (fun RT e => tt_unlike e)
theorem s_keptBreaks (d : Nat) {x rd dr b ac sp cn wh sw swc swt kp t1 t2 ly wi m : ab_Ob} (h : hR x rd dr b ac sp cn wh sw swc swt kp t1 t2 ly wi m) : sim ab_I (d + 12) (d + 12) mX8_keptBreaks mX9_keptBreaks [] x rd dr b ac sp cn wh sw swc swt kp t1 t2 ly wi m := by
  obtain ⟨c', k1, k2⟩ := h.2.2.2.2.2.2.2.2.2
  exact sim_q h (h_keptBreaks (d + 3) h.1 h.2.1 k2) (fun RT e => c9_keptBreaks (d + 8) h.2.2.2.2.1 k1 e) (fun RT e => tt_keptBreaks e)
