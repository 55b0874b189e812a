/-! the constructors -/
def mX5_init : ab_M := ((yX5_init, cX5_init, 1, none), ([], [], [], true, true, 0), (false, 5, 0))
set_option maxRecDepth 100000 in
set_option maxHeartbeats 4000000 in
theorem n_5 (d : Nat) : ci_Ct (d + 1) 6 126 mX5_init 5 [5] [i_sc] := by
  refine ci_intro (L := (fun f => if f = 6 then 6 else 24)) (ci_mok_of 136 101 135 (by decide +kernel)) (fun x h0 ls hx hl hls S => ?_)
  refine ci_obj hx hl hls rfl (i := 3) (p := 137) (by decide +kernel) (by decide +kernel) ?_
  refine ci_int hx hl S (pc := 4) (f := 0) (i := 9) (k := 1) (p := 138) (n := 1) (by decide) (by decide) rfl (by decide +kernel) (by decide +kernel) rfl rfl (fun H locs S => ?_)
  refine ci_int hx hl S (pc := 9) (f := 1) (i := 15) (k := 1) (p := 141) (n := 1) (by decide) (by decide) rfl (by decide +kernel) (by decide +kernel) rfl rfl (fun H locs S => ?_)
  refine ci_int hx hl S (pc := 14) (f := 2) (i := 18) (k := 1) (p := 144) (n := 0) (by decide) (by decide) rfl (by decide +kernel) (by decide +kernel) rfl rfl (fun H locs S => ?_)
  refine ci_int hx hl S (pc := 19) (f := 3) (i := 21) (k := 1) (p := 147) (n := 0) (by decide) (by decide) rfl (by decide +kernel) (by decide +kernel) rfl rfl (fun H locs S => ?_)
  refine ci_arr hx hl S (pc := 24) (f := 4) (i := 24) (k := 2) (p := 152) (p2 := 190) (n := 24) (ty := .int) (by decide) (by decide) rfl (by decide +kernel) (by decide +kernel) (by decide +kernel) rfl (Or.inl rfl) rfl ⟨by decide, by decide⟩ (fun _ => ⟨rfl, rfl⟩) ⟨Nat.le_of_ble_eq_true rfl, Nat.le_of_ble_eq_true rfl⟩ (fun a1 H locs S => ?_)
  refine ci_arr hx hl S (pc := 32) (f := 5) (i := 28) (k := 2) (p := 155) (p2 := 190) (n := 24) (ty := .int) (by decide) (by decide) rfl (by decide +kernel) (by decide +kernel) (by decide +kernel) rfl (Or.inl rfl) rfl ⟨by decide, by decide⟩ (fun _ => ⟨rfl, rfl⟩) ⟨Nat.le_of_ble_eq_true rfl, Nat.le_of_ble_eq_true rfl⟩ (fun a2 H locs S => ?_)
  refine ci_arr hx hl S (pc := 40) (f := 6) (i := 31) (k := 2) (p := 157) (p2 := 190) (n := 6) (ty := .int) (by decide) (by decide) rfl (by decide +kernel) (by decide +kernel) (by decide +kernel) rfl (Or.inl rfl) rfl ⟨by decide, by decide⟩ (fun _ => ⟨rfl, rfl⟩) ⟨Nat.le_of_ble_eq_true rfl, Nat.le_of_ble_eq_true rfl⟩ (fun a3 H locs S => ?_)
  refine ci_arr hx hl S (pc := 48) (f := 7) (i := 34) (k := 2) (p := 162) (p2 := 190) (n := 24) (ty := .int) (by decide) (by decide) rfl (by decide +kernel) (by decide +kernel) (by decide +kernel) rfl (Or.inl rfl) rfl ⟨by decide, by decide⟩ (fun _ => ⟨rfl, rfl⟩) ⟨Nat.le_of_ble_eq_true rfl, Nat.le_of_ble_eq_true rfl⟩ (fun a4 H locs S => ?_)
  refine ci_arr hx hl S (pc := 56) (f := 8) (i := 37) (k := 2) (p := 164) (p2 := 190) (n := 24) (ty := .int) (by decide) (by decide) rfl (by decide +kernel) (by decide +kernel) (by decide +kernel) rfl (Or.inl rfl) rfl ⟨by decide, by decide⟩ (fun _ => ⟨rfl, rfl⟩) ⟨Nat.le_of_ble_eq_true rfl, Nat.le_of_ble_eq_true rfl⟩ (fun a5 H locs S => ?_)
  refine ci_arr hx hl S (pc := 64) (f := 9) (i := 40) (k := 2) (p := 166) (p2 := 190) (n := 24) (ty := .int) (by decide) (by decide) rfl (by decide +kernel) (by decide +kernel) (by decide +kernel) rfl (Or.inl rfl) rfl ⟨by decide, by decide⟩ (fun _ => ⟨rfl, rfl⟩) ⟨Nat.le_of_ble_eq_true rfl, Nat.le_of_ble_eq_true rfl⟩ (fun a6 H locs S => ?_)
  refine ci_end hx rfl (ci_fin S (sc := (fun f => if f = 0 then 1 else if f = 1 then 1 else 0))
    (fun f hf => by
    match f, hf with
    | 0, _ => rfl
    | 1, _ => rfl
    | 2, _ => rfl
    | 3, _ => rfl
    | 4, _ => rfl
    | 5, _ => rfl
    | 6, _ => rfl
    | 7, _ => rfl
    | 8, _ => rfl
    | 9, _ => rfl
    | k + 10, h => exact absurd (show k + 10 < 10 from h) (by omega))
    (fun f hf => by
    match f, hf with
    | 0, _ => exact fun h _ => absurd h (by decide)
    | 1, _ => exact fun h _ => absurd h (by decide)
    | 2, _ => exact fun h _ => absurd h (by decide)
    | 3, _ => exact fun h _ => absurd h (by decide)
    | 4, _ => exact fun _ _ => rfl
    | 5, _ => exact fun _ _ => rfl
    | 6, _ => exact fun _ _ => rfl
    | 7, _ => exact fun _ _ => rfl
    | 8, _ => exact fun _ _ => rfl
    | 9, _ => exact fun _ _ => rfl
    | k + 10, h => exact absurd (show k + 10 < 10 from h) (by omega))
    (by decide) (fun f => by constructor <;> (try dsimp only) <;> (repeat' split) <;> omega) (fun f => by constructor <;> (try dsimp only) <;> (repeat' split) <;> omega)) S.2.2.2 rfl (by decide +kernel) ⟨Nat.le_of_ble_eq_true rfl, Nat.le_of_ble_eq_true rfl⟩
def mX0_init : ab_M := ((yX0_init, cX0_init, 1, none), ([], [], [], true, true, 0), (false, 0, 0))
set_option maxRecDepth 100000 in
set_option maxHeartbeats 4000000 in
theorem n_0 (d : Nat) : ci_Ct (d + 1) 3 30 mX0_init 0 [0] [i_ac] := by
  refine ci_intro (L := (fun _ => 10)) (ci_mok_of 235 102 234 (by decide +kernel)) (fun x h0 ls hx hl hls S => ?_)
  refine ci_obj hx hl hls rfl (i := 3) (p := 236) (by decide +kernel) (by decide +kernel) ?_
  refine ci_int hx hl S (pc := 4) (f := 0) (i := 9) (k := 1) (p := 237) (n := 0) (by decide) (by decide) rfl (by decide +kernel) (by decide +kernel) rfl rfl (fun H locs S => ?_)
  refine ci_arr hx hl S (pc := 9) (f := 1) (i := 15) (k := 2) (p := 239) (p2 := 190) (n := 10) (ty := .int) (by decide) (by decide) rfl (by decide +kernel) (by decide +kernel) (by decide +kernel) rfl (Or.inl rfl) rfl ⟨by decide, by decide⟩ (fun _ => ⟨rfl, rfl⟩) ⟨Nat.le_of_ble_eq_true rfl, Nat.le_of_ble_eq_true rfl⟩ (fun a1 H locs S => ?_)
  refine ci_arr hx hl S (pc := 17) (f := 2) (i := 19) (k := 2) (p := 241) (p2 := 190) (n := 10) (ty := .int) (by decide) (by decide) rfl (by decide +kernel) (by decide +kernel) (by decide +kernel) rfl (Or.inl rfl) rfl ⟨by decide, by decide⟩ (fun _ => ⟨rfl, rfl⟩) ⟨Nat.le_of_ble_eq_true rfl, Nat.le_of_ble_eq_true rfl⟩ (fun a2 H locs S => ?_)
  refine ci_arr hx hl S (pc := 25) (f := 3) (i := 22) (k := 2) (p := 243) (p2 := 190) (n := 10) (ty := .int) (by decide) (by decide) rfl (by decide +kernel) (by decide +kernel) (by decide +kernel) rfl (Or.inl rfl) rfl ⟨by decide, by decide⟩ (fun _ => ⟨rfl, rfl⟩) ⟨Nat.le_of_ble_eq_true rfl, Nat.le_of_ble_eq_true rfl⟩ (fun a3 H locs S => ?_)
  refine ci_end hx rfl (ci_fin S (sc := (fun _ => 0))
    (fun f hf => by
    match f, hf with
    | 0, _ => rfl
    | 1, _ => rfl
    | 2, _ => rfl
    | 3, _ => rfl
    | k + 4, h => exact absurd (show k + 4 < 4 from h) (by omega))
    (fun f hf => by
    match f, hf with
    | 0, _ => exact fun h _ => absurd h (by decide)
    | 1, _ => exact fun _ _ => rfl
    | 2, _ => exact fun _ _ => rfl
    | 3, _ => exact fun _ _ => rfl
    | k + 4, h => exact absurd (show k + 4 < 4 from h) (by omega))
    (by decide) (fun f => by constructor <;> (try dsimp only) <;> (repeat' split) <;> omega) (fun f => by constructor <;> (try dsimp only) <;> (repeat' split) <;> omega)) S.2.2.2 rfl (by decide +kernel) ⟨Nat.le_of_ble_eq_true rfl, Nat.le_of_ble_eq_true rfl⟩
def mX1_init : ab_M := ((yX1_init, cX1_init, 1, none), ([], [], [], true, true, 0), (false, 1, 0))
set_option maxRecDepth 100000 in
set_option maxHeartbeats 4000000 in
theorem n_1 (d : Nat) : ci_Ct (d + 1) 2 0 mX1_init 1 [1] [i_ch] := by
  refine ci_intro (L := (fun _ => 0)) (ci_mok_of 258 103 257 (by decide +kernel)) (fun x h0 ls hx hl hls S => ?_)
  refine ci_obj hx hl hls rfl (i := 3) (p := 259) (by decide +kernel) (by decide +kernel) ?_
  refine ci_int hx hl S (pc := 4) (f := 0) (i := 9) (k := 1) (p := 260) (n := 0) (by decide) (by decide) rfl (by decide +kernel) (by decide +kernel) rfl rfl (fun H locs S => ?_)
  refine ci_int hx hl S (pc := 9) (f := 1) (i := 15) (k := 1) (p := 262) (n := 0) (by decide) (by decide) rfl (by decide +kernel) (by decide +kernel) rfl rfl (fun H locs S => ?_)
  refine ci_arr hx hl S (pc := 14) (f := 2) (i := 18) (k := 1) (p := 263) (p2 := 190) (n := 0) (ty := .int) (by decide) (by decide) rfl (by decide +kernel) (by decide +kernel) (by decide +kernel) rfl (Or.inl rfl) rfl ⟨by decide, by decide⟩ (fun _ => ⟨rfl, rfl⟩) ⟨Nat.le_of_ble_eq_true rfl, Nat.le_of_ble_eq_true rfl⟩ (fun a1 H locs S => ?_)
  refine ci_arr hx hl S (pc := 21) (f := 3) (i := 22) (k := 1) (p := 264) (p2 := 190) (n := 0) (ty := .int) (by decide) (by decide) rfl (by decide +kernel) (by decide +kernel) (by decide +kernel) rfl (Or.inl rfl) rfl ⟨by decide, by decide⟩ (fun _ => ⟨rfl, rfl⟩) ⟨Nat.le_of_ble_eq_true rfl, Nat.le_of_ble_eq_true rfl⟩ (fun a2 H locs S => ?_)
  refine ci_end hx rfl (ci_fin S (sc := (fun _ => 0))
    (fun f hf => by
    match f, hf with
    | 0, _ => rfl
    | 1, _ => rfl
    | 2, _ => rfl
    | 3, _ => rfl
    | k + 4, h => exact absurd (show k + 4 < 4 from h) (by omega))
    (fun f hf => by
    match f, hf with
    | 0, _ => exact fun h _ => absurd h (by decide)
    | 1, _ => exact fun h _ => absurd h (by decide)
    | 2, _ => exact fun _ _ => rfl
    | 3, _ => exact fun _ _ => rfl
    | k + 4, h => exact absurd (show k + 4 < 4 from h) (by omega))
    (by decide) (fun f => by constructor <;> (try dsimp only) <;> (repeat' split) <;> omega) (fun f => by constructor <;> (try dsimp only) <;> (repeat' split) <;> omega)) S.2.2.2 rfl (by decide +kernel) ⟨Nat.le_of_ble_eq_true rfl, Nat.le_of_ble_eq_true rfl⟩
def mX2_init : ab_M := ((yX2_init, cX2_init, 1, none), ([], [], [], true, true, 0), (false, 2, 0))
set_option maxRecDepth 100000 in
set_option maxHeartbeats 4000000 in
theorem n_2 (d : Nat) : ci_Ct (d + 1) 1 0 mX2_init 2 [2] [i_cn] := by
  refine ci_intro (L := (fun _ => 0)) (ci_mok_of 278 104 277 (by decide +kernel)) (fun x h0 ls hx hl hls S => ?_)
  refine ci_obj hx hl hls rfl (i := 1) (p := 279) (by decide +kernel) (by decide +kernel) ?_
  refine ci_arr hx hl S (pc := 4) (f := 0) (i := 7) (k := 1) (p := 280) (p2 := 284) (n := 0) (ty := .long) (by decide) (by decide) rfl (by decide +kernel) (by decide +kernel) (by decide +kernel) rfl (Or.inr (Or.inr (Or.inl rfl))) rfl ⟨by decide, by decide⟩ (fun _ => ⟨rfl, rfl⟩) ⟨Nat.le_of_ble_eq_true rfl, Nat.le_of_ble_eq_true rfl⟩ (fun a1 H locs S => ?_)
  refine ci_end hx rfl (ci_fin S (sc := (fun _ => 0))
    (fun f hf => by
    match f, hf with
    | 0, _ => rfl
    | k + 1, h => exact absurd (show k + 1 < 1 from h) (by omega))
    (fun f hf => by
    match f, hf with
    | 0, _ => exact fun _ _ => rfl
    | k + 1, h => exact absurd (show k + 1 < 1 from h) (by omega))
    (by decide) (fun f => by constructor <;> (try dsimp only) <;> (repeat' split) <;> omega) (fun f => by constructor <;> (try dsimp only) <;> (repeat' split) <;> omega)) S.2.2.2 rfl (by decide +kernel) ⟨Nat.le_of_ble_eq_true rfl, Nat.le_of_ble_eq_true rfl⟩
def mX7_init : ab_M := ((yX7_init, cX7_init, 1, none), ([], [], [], true, true, 0), (false, 7, 0))
set_option maxRecDepth 100000 in
set_option maxHeartbeats 4000000 in
theorem n_7 (d : Nat) : ci_Ct (d + 1) 7 168 mX7_init 7 [7] [i_tr] := by
  refine ci_intro (L := (fun _ => 24)) (ci_mok_of 289 105 288 (by decide +kernel)) (fun x h0 ls hx hl hls S => ?_)
  refine ci_obj hx hl hls rfl (i := 3) (p := 290) (by decide +kernel) (by decide +kernel) ?_
  refine ci_int hx hl S (pc := 4) (f := 0) (i := 9) (k := 1) (p := 291) (n := 0) (by decide) (by decide) rfl (by decide +kernel) (by decide +kernel) rfl rfl (fun H locs S => ?_)
  refine ci_int hx hl S (pc := 9) (f := 1) (i := 15) (k := 1) (p := 292) (n := 0) (by decide) (by decide) rfl (by decide +kernel) (by decide +kernel) rfl rfl (fun H locs S => ?_)
  refine ci_int hx hl S (pc := 14) (f := 2) (i := 18) (k := 1) (p := 293) (n := 0) (by decide) (by decide) rfl (by decide +kernel) (by decide +kernel) rfl rfl (fun H locs S => ?_)
  refine ci_arr hx hl S (pc := 19) (f := 3) (i := 21) (k := 2) (p := 296) (p2 := 190) (n := 24) (ty := .int) (by decide) (by decide) rfl (by decide +kernel) (by decide +kernel) (by decide +kernel) rfl (Or.inl rfl) rfl ⟨by decide, by decide⟩ (fun _ => ⟨rfl, rfl⟩) ⟨Nat.le_of_ble_eq_true rfl, Nat.le_of_ble_eq_true rfl⟩ (fun a1 H locs S => ?_)
  refine ci_arr hx hl S (pc := 27) (f := 4) (i := 25) (k := 2) (p := 299) (p2 := 190) (n := 24) (ty := .int) (by decide) (by decide) rfl (by decide +kernel) (by decide +kernel) (by decide +kernel) rfl (Or.inl rfl) rfl ⟨by decide, by decide⟩ (fun _ => ⟨rfl, rfl⟩) ⟨Nat.le_of_ble_eq_true rfl, Nat.le_of_ble_eq_true rfl⟩ (fun a2 H locs S => ?_)
  refine ci_arr hx hl S (pc := 35) (f := 5) (i := 28) (k := 2) (p := 302) (p2 := 190) (n := 24) (ty := .int) (by decide) (by decide) rfl (by decide +kernel) (by decide +kernel) (by decide +kernel) rfl (Or.inl rfl) rfl ⟨by decide, by decide⟩ (fun _ => ⟨rfl, rfl⟩) ⟨Nat.le_of_ble_eq_true rfl, Nat.le_of_ble_eq_true rfl⟩ (fun a3 H locs S => ?_)
  refine ci_arr hx hl S (pc := 43) (f := 6) (i := 31) (k := 2) (p := 304) (p2 := 190) (n := 24) (ty := .int) (by decide) (by decide) rfl (by decide +kernel) (by decide +kernel) (by decide +kernel) rfl (Or.inl rfl) rfl ⟨by decide, by decide⟩ (fun _ => ⟨rfl, rfl⟩) ⟨Nat.le_of_ble_eq_true rfl, Nat.le_of_ble_eq_true rfl⟩ (fun a4 H locs S => ?_)
  refine ci_arr hx hl S (pc := 51) (f := 7) (i := 34) (k := 2) (p := 307) (p2 := 190) (n := 24) (ty := .int) (by decide) (by decide) rfl (by decide +kernel) (by decide +kernel) (by decide +kernel) rfl (Or.inl rfl) rfl ⟨by decide, by decide⟩ (fun _ => ⟨rfl, rfl⟩) ⟨Nat.le_of_ble_eq_true rfl, Nat.le_of_ble_eq_true rfl⟩ (fun a5 H locs S => ?_)
  refine ci_arr hx hl S (pc := 59) (f := 8) (i := 37) (k := 2) (p := 309) (p2 := 190) (n := 24) (ty := .int) (by decide) (by decide) rfl (by decide +kernel) (by decide +kernel) (by decide +kernel) rfl (Or.inl rfl) rfl ⟨by decide, by decide⟩ (fun _ => ⟨rfl, rfl⟩) ⟨Nat.le_of_ble_eq_true rfl, Nat.le_of_ble_eq_true rfl⟩ (fun a6 H locs S => ?_)
  refine ci_arr hx hl S (pc := 67) (f := 9) (i := 40) (k := 2) (p := 312) (p2 := 190) (n := 24) (ty := .int) (by decide) (by decide) rfl (by decide +kernel) (by decide +kernel) (by decide +kernel) rfl (Or.inl rfl) rfl ⟨by decide, by decide⟩ (fun _ => ⟨rfl, rfl⟩) ⟨Nat.le_of_ble_eq_true rfl, Nat.le_of_ble_eq_true rfl⟩ (fun a7 H locs S => ?_)
  refine ci_end hx rfl (ci_fin S (sc := (fun _ => 0))
    (fun f hf => by
    match f, hf with
    | 0, _ => rfl
    | 1, _ => rfl
    | 2, _ => rfl
    | 3, _ => rfl
    | 4, _ => rfl
    | 5, _ => rfl
    | 6, _ => rfl
    | 7, _ => rfl
    | 8, _ => rfl
    | 9, _ => rfl
    | k + 10, h => exact absurd (show k + 10 < 10 from h) (by omega))
    (fun f hf => by
    match f, hf with
    | 0, _ => exact fun h _ => absurd h (by decide)
    | 1, _ => exact fun h _ => absurd h (by decide)
    | 2, _ => exact fun h _ => absurd h (by decide)
    | 3, _ => exact fun _ _ => rfl
    | 4, _ => exact fun _ _ => rfl
    | 5, _ => exact fun _ _ => rfl
    | 6, _ => exact fun _ _ => rfl
    | 7, _ => exact fun _ _ => rfl
    | 8, _ => exact fun _ _ => rfl
    | 9, _ => exact fun _ _ => rfl
    | k + 10, h => exact absurd (show k + 10 < 10 from h) (by omega))
    (by decide) (fun f => by constructor <;> (try dsimp only) <;> (repeat' split) <;> omega) (fun f => by constructor <;> (try dsimp only) <;> (repeat' split) <;> omega)) S.2.2.2 rfl (by decide +kernel) ⟨Nat.le_of_ble_eq_true rfl, Nat.le_of_ble_eq_true rfl⟩
def mX3_init : ab_M := ((yX3_init, cX3_init, 1, none), ([], [], [], true, true, 0), (false, 3, 0))
set_option maxRecDepth 100000 in
set_option maxHeartbeats 4000000 in
theorem n_3 (d : Nat) : ci_Ct (d + 1) 3 72 mX3_init 3 [3] [i_ly] := by
  refine ci_intro (L := (fun _ => 24)) (ci_mok_of 370 107 369 (by decide +kernel)) (fun x h0 ls hx hl hls S => ?_)
  refine ci_obj hx hl hls rfl (i := 3) (p := 371) (by decide +kernel) (by decide +kernel) ?_
  refine ci_int hx hl S (pc := 4) (f := 0) (i := 9) (k := 1) (p := 372) (n := 0) (by decide) (by decide) rfl (by decide +kernel) (by decide +kernel) rfl rfl (fun H locs S => ?_)
  refine ci_arr hx hl S (pc := 9) (f := 1) (i := 15) (k := 2) (p := 374) (p2 := 190) (n := 24) (ty := .int) (by decide) (by decide) rfl (by decide +kernel) (by decide +kernel) (by decide +kernel) rfl (Or.inl rfl) rfl ⟨by decide, by decide⟩ (fun _ => ⟨rfl, rfl⟩) ⟨Nat.le_of_ble_eq_true rfl, Nat.le_of_ble_eq_true rfl⟩ (fun a1 H locs S => ?_)
  refine ci_arr hx hl S (pc := 17) (f := 2) (i := 19) (k := 2) (p := 376) (p2 := 190) (n := 24) (ty := .int) (by decide) (by decide) rfl (by decide +kernel) (by decide +kernel) (by decide +kernel) rfl (Or.inl rfl) rfl ⟨by decide, by decide⟩ (fun _ => ⟨rfl, rfl⟩) ⟨Nat.le_of_ble_eq_true rfl, Nat.le_of_ble_eq_true rfl⟩ (fun a2 H locs S => ?_)
  refine ci_arr hx hl S (pc := 25) (f := 3) (i := 22) (k := 2) (p := 378) (p2 := 190) (n := 24) (ty := .int) (by decide) (by decide) rfl (by decide +kernel) (by decide +kernel) (by decide +kernel) rfl (Or.inl rfl) rfl ⟨by decide, by decide⟩ (fun _ => ⟨rfl, rfl⟩) ⟨Nat.le_of_ble_eq_true rfl, Nat.le_of_ble_eq_true rfl⟩ (fun a3 H locs S => ?_)
  refine ci_end hx rfl (ci_fin S (sc := (fun _ => 0))
    (fun f hf => by
    match f, hf with
    | 0, _ => rfl
    | 1, _ => rfl
    | 2, _ => rfl
    | 3, _ => rfl
    | k + 4, h => exact absurd (show k + 4 < 4 from h) (by omega))
    (fun f hf => by
    match f, hf with
    | 0, _ => exact fun h _ => absurd h (by decide)
    | 1, _ => exact fun _ _ => rfl
    | 2, _ => exact fun _ _ => rfl
    | 3, _ => exact fun _ _ => rfl
    | k + 4, h => exact absurd (show k + 4 < 4 from h) (by omega))
    (by decide) (fun f => by constructor <;> (try dsimp only) <;> (repeat' split) <;> omega) (fun f => by constructor <;> (try dsimp only) <;> (repeat' split) <;> omega)) S.2.2.2 rfl (by decide +kernel) ⟨Nat.le_of_ble_eq_true rfl, Nat.le_of_ble_eq_true rfl⟩
def mX4_init : ab_M := ((yX4_init, cX4_init, 1, none), ([], [], [], true, true, 0), (false, 4, 0))
set_option maxRecDepth 100000 in
set_option maxHeartbeats 4000000 in
theorem n_4 (d : Nat) : ci_Ct (d + 2) 9 842 mX4_init 4 [4, 5] [i_rd, i_sc] := by
  refine ci_intro (L := (fun f => if f = 1 then 700 else if f = 5 then 6 else 0)) (ci_mok_of 130 100 129 (by decide +kernel)) (fun x h0 ls hx hl hls S => ?_)
  refine ci_obj hx hl hls rfl (i := 3) (p := 131) (by decide +kernel) (by decide +kernel) ?_
  refine ci_int hx hl S (pc := 4) (f := 0) (i := 9) (k := 1) (p := 191) (n := 0) (by decide) (by decide) rfl (by decide +kernel) (by decide +kernel) rfl rfl (fun H locs S => ?_)
  refine ci_arr hx hl S (pc := 9) (f := 1) (i := 15) (k := 3) (p := 193) (p2 := 189) (n := 700) (ty := .byte) (by decide) (by decide) rfl (by decide +kernel) (by decide +kernel) (by decide +kernel) rfl (Or.inr (Or.inl rfl)) rfl ⟨by decide, by decide⟩ (fun _ => ⟨rfl, rfl⟩) ⟨Nat.le_of_ble_eq_true rfl, Nat.le_of_ble_eq_true rfl⟩ (fun a1 H locs S => ?_)
  refine ci_int hx hl S (pc := 18) (f := 2) (i := 19) (k := 1) (p := 194) (n := 0) (by decide) (by decide) rfl (by decide +kernel) (by decide +kernel) rfl rfl (fun H locs S => ?_)
  refine ci_sub (d := d + 0) hx hl hls S (pc := 23) (f := 3) (i := 25) (i1 := 22) (i2 := 24) (p := 195) (p1 := 132) (p2 := 133) (p3 := 101) (p4 := 1) (n := 10) (n_5 (d + 0)) (by decide) (by decide) rfl rfl (by decide +kernel) (by decide) (by decide +kernel) (by decide +kernel) (by decide +kernel) rfl (by decide +kernel) (fun _ => ⟨rfl, rfl⟩) ⟨Nat.le_of_ble_eq_true rfl, Nat.le_of_ble_eq_true rfl⟩ (by decide) (fun a2 d2 H locs e S => ?_)
  subst e
  refine ci_int hx hl S (pc := 34) (f := 4) (i := 29) (k := 1) (p := 196) (n := 0) (by decide) (by decide) rfl (by decide +kernel) (by decide +kernel) (by decide) (by decide) (fun H locs S => ?_)
  refine ci_arr hx hl S (pc := 39) (f := 5) (i := 33) (k := 2) (p := 197) (p2 := 228) (n := 6) (ty := .boolean) (by decide) (by decide) rfl (by decide +kernel) (by decide +kernel) (by decide +kernel) rfl (Or.inr (Or.inr (Or.inr rfl))) rfl ⟨by decide, by decide⟩ (fun _ => ⟨rfl, rfl⟩) ⟨Nat.le_of_ble_eq_true rfl, Nat.le_of_ble_eq_true rfl⟩ (fun a3 H locs S => ?_)
  refine ci_int hx hl S (pc := 47) (f := 6) (i := 37) (k := 1) (p := 198) (n := 0) (by decide) (by decide) rfl (by decide +kernel) (by decide +kernel) rfl rfl (fun H locs S => ?_)
  refine ci_int hx hl S (pc := 52) (f := 7) (i := 40) (k := 1) (p := 199) (n := 0) (by decide) (by decide) rfl (by decide +kernel) (by decide +kernel) rfl rfl (fun H locs S => ?_)
  refine ci_int hx hl S (pc := 57) (f := 8) (i := 43) (k := 1) (p := 201) (n := 0) (by decide) (by decide) rfl (by decide +kernel) (by decide +kernel) rfl rfl (fun H locs S => ?_)
  refine ci_int hx hl S (pc := 62) (f := 9) (i := 46) (k := 1) (p := 202) (n := 0) (by decide) (by decide) rfl (by decide +kernel) (by decide +kernel) rfl rfl (fun H locs S => ?_)
  refine ci_int hx hl S (pc := 67) (f := 10) (i := 49) (k := 1) (p := 203) (n := 0) (by decide) (by decide) rfl (by decide +kernel) (by decide +kernel) rfl rfl (fun H locs S => ?_)
  refine ci_end hx rfl (ci_fin S (sc := (fun _ => 0))
    (fun f hf => by
    match f, hf with
    | 0, _ => rfl
    | 1, _ => rfl
    | 2, _ => rfl
    | 3, _ => rfl
    | 4, _ => rfl
    | 5, _ => rfl
    | 6, _ => rfl
    | 7, _ => rfl
    | 8, _ => rfl
    | 9, _ => rfl
    | 10, _ => rfl
    | k + 11, h => exact absurd (show k + 11 < 11 from h) (by omega))
    (fun f hf => by
    match f, hf with
    | 0, _ => exact fun h _ => absurd h (by decide)
    | 1, _ => exact fun _ _ => rfl
    | 2, _ => exact fun h _ => absurd h (by decide)
    | 3, _ => exact fun _ h => absurd h (by decide)
    | 4, _ => exact fun h _ => absurd h (by decide)
    | 5, _ => exact fun _ _ => rfl
    | 6, _ => exact fun h _ => absurd h (by decide)
    | 7, _ => exact fun h _ => absurd h (by decide)
    | 8, _ => exact fun h _ => absurd h (by decide)
    | 9, _ => exact fun h _ => absurd h (by decide)
    | 10, _ => exact fun h _ => absurd h (by decide)
    | k + 11, h => exact absurd (show k + 11 < 11 from h) (by omega))
    (by decide) (fun f => by constructor <;> (try dsimp only) <;> (repeat' split) <;> omega) (fun f => by constructor <;> (try dsimp only) <;> (repeat' split) <;> omega)) S.2.2.2 rfl (by decide +kernel) ⟨Nat.le_of_ble_eq_true rfl, Nat.le_of_ble_eq_true rfl⟩
def mX6_init : ab_M := ((yX6_init, cX6_init, 1, none), ([], [], [], true, true, 0), (false, 6, 0))
set_option maxRecDepth 100000 in
set_option maxHeartbeats 4000000 in
theorem n_6 (d : Nat) : ci_Ct (d + 2) 16 282 mX6_init 6 [6, 1, 7] [i_sw, i_ch, i_tr] := by
  refine ci_intro (L := (fun f => if f = 6 then 100 else 0)) (ci_mok_of 338 106 337 (by decide +kernel)) (fun x h0 ls hx hl hls S => ?_)
  refine ci_obj hx hl hls rfl (i := 3) (p := 339) (by decide +kernel) (by decide +kernel) ?_
  refine ci_sub (d := d + 0) hx hl hls S (pc := 4) (f := 0) (i := 12) (i1 := 9) (i2 := 11) (p := 344) (p1 := 340) (p2 := 255) (p3 := 103) (p4 := 8) (n := 4) (n_1 (d + 0)) (by decide) (by decide) rfl rfl (by decide +kernel) (by decide) (by decide +kernel) (by decide +kernel) (by decide +kernel) rfl (by decide +kernel) (fun _ => ⟨rfl, rfl⟩) ⟨Nat.le_of_ble_eq_true rfl, Nat.le_of_ble_eq_true rfl⟩ (by decide) (fun a1 d1 H locs e S => ?_)
  subst e
  refine ci_sub (d := d + 0) hx hl hls S (pc := 15) (f := 1) (i := 21) (i1 := 18) (i2 := 20) (p := 345) (p1 := 342) (p2 := 286) (p3 := 105) (p4 := 9) (n := 10) (n_7 (d + 0)) (by decide) (by decide) rfl rfl (by decide +kernel) (by decide) (by decide +kernel) (by decide +kernel) (by decide +kernel) rfl (by decide +kernel) (fun _ => ⟨rfl, rfl⟩) ⟨Nat.le_of_ble_eq_true rfl, Nat.le_of_ble_eq_true rfl⟩ (by decide) (fun a2 d2 H locs e S => ?_)
  subst e
  refine ci_arr hx hl S (pc := 26) (f := 2) (i := 25) (k := 1) (p := 346) (p2 := 228) (n := 0) (ty := .boolean) (by decide) (by decide) rfl (by decide +kernel) (by decide +kernel) (by decide +kernel) rfl (Or.inr (Or.inr (Or.inr rfl))) rfl ⟨by decide, by decide⟩ (fun _ => ⟨rfl, rfl⟩) ⟨Nat.le_of_ble_eq_true rfl, Nat.le_of_ble_eq_true rfl⟩ (fun a3 H locs S => ?_)
  refine ci_arr hx hl S (pc := 33) (f := 3) (i := 29) (k := 1) (p := 347) (p2 := 190) (n := 0) (ty := .int) (by decide) (by decide) rfl (by decide +kernel) (by decide +kernel) (by decide +kernel) rfl (Or.inl rfl) rfl ⟨by decide, by decide⟩ (fun _ => ⟨rfl, rfl⟩) ⟨Nat.le_of_ble_eq_true rfl, Nat.le_of_ble_eq_true rfl⟩ (fun a4 H locs S => ?_)
  refine ci_arr hx hl S (pc := 40) (f := 4) (i := 33) (k := 1) (p := 348) (p2 := 190) (n := 0) (ty := .int) (by decide) (by decide) rfl (by decide +kernel) (by decide +kernel) (by decide +kernel) rfl (Or.inl rfl) rfl ⟨by decide, by decide⟩ (fun _ => ⟨rfl, rfl⟩) ⟨Nat.le_of_ble_eq_true rfl, Nat.le_of_ble_eq_true rfl⟩ (fun a5 H locs S => ?_)
  refine ci_arr hx hl S (pc := 47) (f := 5) (i := 36) (k := 1) (p := 349) (p2 := 190) (n := 0) (ty := .int) (by decide) (by decide) rfl (by decide +kernel) (by decide +kernel) (by decide +kernel) rfl (Or.inl rfl) rfl ⟨by decide, by decide⟩ (fun _ => ⟨rfl, rfl⟩) ⟨Nat.le_of_ble_eq_true rfl, Nat.le_of_ble_eq_true rfl⟩ (fun a6 H locs S => ?_)
  refine ci_arr hx hl S (pc := 54) (f := 6) (i := 39) (k := 2) (p := 350) (p2 := 190) (n := 100) (ty := .int) (by decide) (by decide) rfl (by decide +kernel) (by decide +kernel) (by decide +kernel) rfl (Or.inl rfl) rfl ⟨by decide, by decide⟩ (fun _ => ⟨rfl, rfl⟩) ⟨Nat.le_of_ble_eq_true rfl, Nat.le_of_ble_eq_true rfl⟩ (fun a7 H locs S => ?_)
  refine ci_end hx rfl (ci_fin S (sc := (fun _ => 0))
    (fun f hf => by
    match f, hf with
    | 0, _ => rfl
    | 1, _ => rfl
    | 2, _ => rfl
    | 3, _ => rfl
    | 4, _ => rfl
    | 5, _ => rfl
    | 6, _ => rfl
    | k + 7, h => exact absurd (show k + 7 < 7 from h) (by omega))
    (fun f hf => by
    match f, hf with
    | 0, _ => exact fun _ h => absurd h (by decide)
    | 1, _ => exact fun _ h => absurd h (by decide)
    | 2, _ => exact fun _ _ => rfl
    | 3, _ => exact fun _ _ => rfl
    | 4, _ => exact fun _ _ => rfl
    | 5, _ => exact fun _ _ => rfl
    | 6, _ => exact fun _ _ => rfl
    | k + 7, h => exact absurd (show k + 7 < 7 from h) (by omega))
    (by decide) (fun f => by constructor <;> (try dsimp only) <;> (repeat' split) <;> omega) (fun f => by constructor <;> (try dsimp only) <;> (repeat' split) <;> omega)) S.2.2.2 rfl (by decide +kernel) ⟨Nat.le_of_ble_eq_true rfl, Nat.le_of_ble_eq_true rfl⟩
def mX8_init : ab_M := ((yX8_init, cX8_init, 1, none), ([], [], [], true, true, 0), (false, 8, 0))
set_option maxRecDepth 100000 in
set_option maxHeartbeats 4000000 in
theorem n_8 (d : Nat) : ci_Ct (d + 3) 83 2181 mX8_init 8 [8, 4, 5, 5, 0, 1, 2, 7, 6, 1, 7, 7, 7, 7, 3, 3] [i_x, i_rd, i_sc, i_sc, i_ac, i_ch, i_cn, i_tr, i_sw, i_ch, i_tr, i_tr, i_tr, i_tr, i_ly, i_ly] := by
  refine ci_intro (L := (fun _ => 0)) (ci_mok_of 122 99 121 (by decide +kernel)) (fun x h0 ls hx hl hls S => ?_)
  refine ci_obj hx hl hls rfl (i := 1) (p := 123) (by decide +kernel) (by decide +kernel) ?_
  refine ci_int hx hl S (pc := 4) (f := 0) (i := 9) (k := 1) (p := 389) (n := 0) (by decide) (by decide) rfl (by decide +kernel) (by decide +kernel) rfl rfl (fun H locs S => ?_)
  refine ci_sub (d := d + 1) hx hl hls S (pc := 9) (f := 1) (i := 16) (i1 := 13) (i2 := 15) (p := 390) (p1 := 126) (p2 := 127) (p3 := 100) (p4 := 0) (n := 11) (n_4 (d + 0)) (by decide) (by decide) rfl rfl (by decide +kernel) (by decide) (by decide +kernel) (by decide +kernel) (by decide +kernel) rfl (by decide +kernel) (fun _ => ⟨rfl, rfl⟩) ⟨Nat.le_of_ble_eq_true rfl, Nat.le_of_ble_eq_true rfl⟩ (by decide) (fun a1 d1 H locs e S => ?_)
  subst e
  refine ci_sub (d := d + 1) hx hl hls S (pc := 20) (f := 2) (i := 23) (i1 := 20) (i2 := 22) (p := 391) (p1 := 229) (p2 := 133) (p3 := 101) (p4 := 2) (n := 10) (n_5 (d + 1)) (by decide) (by decide) rfl rfl (by decide +kernel) (by decide) (by decide +kernel) (by decide +kernel) (by decide +kernel) rfl (by decide +kernel) (fun _ => ⟨rfl, rfl⟩) ⟨Nat.le_of_ble_eq_true rfl, Nat.le_of_ble_eq_true rfl⟩ (by decide) (fun a2 d2 H locs e S => ?_)
  subst e
  refine ci_sub (d := d + 1) hx hl hls S (pc := 31) (f := 3) (i := 30) (i1 := 27) (i2 := 29) (p := 392) (p1 := 231) (p2 := 232) (p3 := 102) (p4 := 3) (n := 4) (n_0 (d + 1)) (by decide) (by decide) rfl rfl (by decide +kernel) (by decide) (by decide +kernel) (by decide +kernel) (by decide +kernel) rfl (by decide +kernel) (fun _ => ⟨rfl, rfl⟩) ⟨Nat.le_of_ble_eq_true rfl, Nat.le_of_ble_eq_true rfl⟩ (by decide) (fun a3 d3 H locs e S => ?_)
  subst e
  refine ci_sub (d := d + 1) hx hl hls S (pc := 42) (f := 4) (i := 37) (i1 := 34) (i2 := 36) (p := 393) (p1 := 254) (p2 := 255) (p3 := 103) (p4 := 4) (n := 4) (n_1 (d + 1)) (by decide) (by decide) rfl rfl (by decide +kernel) (by decide) (by decide +kernel) (by decide +kernel) (by decide +kernel) rfl (by decide +kernel) (fun _ => ⟨rfl, rfl⟩) ⟨Nat.le_of_ble_eq_true rfl, Nat.le_of_ble_eq_true rfl⟩ (by decide) (fun a4 d4 H locs e S => ?_)
  subst e
  refine ci_int hx hl S (pc := 53) (f := 5) (i := 41) (k := 1) (p := 394) (n := 0) (by decide) (by decide) rfl (by decide +kernel) (by decide +kernel) (by decide) (by decide) (fun H locs S => ?_)
  refine ci_sub (d := d + 1) hx hl hls S (pc := 58) (f := 6) (i := 48) (i1 := 45) (i2 := 47) (p := 395) (p1 := 274) (p2 := 275) (p3 := 104) (p4 := 5) (n := 1) (n_2 (d + 1)) (by decide) (by decide) rfl rfl (by decide +kernel) (by decide) (by decide +kernel) (by decide +kernel) (by decide +kernel) rfl (by decide +kernel) (fun _ => ⟨rfl, rfl⟩) ⟨Nat.le_of_ble_eq_true rfl, Nat.le_of_ble_eq_true rfl⟩ (by decide) (fun a5 d5 H locs e S => ?_)
  subst e
  refine ci_int hx hl S (pc := 69) (f := 7) (i := 52) (k := 1) (p := 396) (n := 0) (by decide) (by decide) rfl (by decide +kernel) (by decide +kernel) (by decide) (by decide) (fun H locs S => ?_)
  refine ci_sub (d := d + 1) hx hl hls S (pc := 74) (f := 8) (i := 58) (i1 := 55) (i2 := 57) (p := 397) (p1 := 285) (p2 := 286) (p3 := 105) (p4 := 6) (n := 10) (n_7 (d + 1)) (by decide) (by decide) rfl rfl (by decide +kernel) (by decide) (by decide +kernel) (by decide +kernel) (by decide +kernel) rfl (by decide +kernel) (fun _ => ⟨rfl, rfl⟩) ⟨Nat.le_of_ble_eq_true rfl, Nat.le_of_ble_eq_true rfl⟩ (by decide) (fun a6 d6 H locs e S => ?_)
  subst e
  refine ci_int hx hl S (pc := 85) (f := 9) (i := 62) (k := 1) (p := 398) (n := 0) (by decide) (by decide) rfl (by decide +kernel) (by decide +kernel) (by decide) (by decide) (fun H locs S => ?_)
  refine ci_sub (d := d + 1) hx hl hls S (pc := 90) (f := 10) (i := 68) (i1 := 65) (i2 := 67) (p := 399) (p1 := 334) (p2 := 335) (p3 := 106) (p4 := 7) (n := 7) (n_6 (d + 0)) (by decide) (by decide) rfl rfl (by decide +kernel) (by decide) (by decide +kernel) (by decide +kernel) (by decide +kernel) rfl (by decide +kernel) (fun _ => ⟨rfl, rfl⟩) ⟨Nat.le_of_ble_eq_true rfl, Nat.le_of_ble_eq_true rfl⟩ (by decide) (fun a7 d7 H locs e S => ?_)
  subst e
  refine ci_sub (d := d + 1) hx hl hls S (pc := 101) (f := 11) (i := 72) (i1 := 55) (i2 := 57) (p := 400) (p1 := 285) (p2 := 286) (p3 := 105) (p4 := 6) (n := 10) (n_7 (d + 1)) (by decide) (by decide) rfl rfl (by decide +kernel) (by decide) (by decide +kernel) (by decide +kernel) (by decide +kernel) rfl (by decide +kernel) (fun _ => ⟨rfl, rfl⟩) ⟨Nat.le_of_ble_eq_true rfl, Nat.le_of_ble_eq_true rfl⟩ (by decide) (fun a8 d8 H locs e S => ?_)
  subst e
  refine ci_int hx hl S (pc := 112) (f := 12) (i := 75) (k := 1) (p := 401) (n := 0) (by decide) (by decide) rfl (by decide +kernel) (by decide +kernel) (by decide) (by decide) (fun H locs S => ?_)
  refine ci_sub (d := d + 1) hx hl hls S (pc := 117) (f := 13) (i := 78) (i1 := 55) (i2 := 57) (p := 402) (p1 := 285) (p2 := 286) (p3 := 105) (p4 := 6) (n := 10) (n_7 (d + 1)) (by decide) (by decide) rfl rfl (by decide +kernel) (by decide) (by decide +kernel) (by decide +kernel) (by decide +kernel) rfl (by decide +kernel) (fun _ => ⟨rfl, rfl⟩) ⟨Nat.le_of_ble_eq_true rfl, Nat.le_of_ble_eq_true rfl⟩ (by decide) (fun a9 d9 H locs e S => ?_)
  subst e
  refine ci_sub (d := d + 1) hx hl hls S (pc := 128) (f := 14) (i := 81) (i1 := 55) (i2 := 57) (p := 403) (p1 := 285) (p2 := 286) (p3 := 105) (p4 := 6) (n := 10) (n_7 (d + 1)) (by decide) (by decide) rfl rfl (by decide +kernel) (by decide) (by decide +kernel) (by decide +kernel) (by decide +kernel) rfl (by decide +kernel) (fun _ => ⟨rfl, rfl⟩) ⟨Nat.le_of_ble_eq_true rfl, Nat.le_of_ble_eq_true rfl⟩ (by decide) (fun a10 d10 H locs e S => ?_)
  subst e
  refine ci_sub (d := d + 1) hx hl hls S (pc := 139) (f := 15) (i := 87) (i1 := 84) (i2 := 86) (p := 404) (p1 := 366) (p2 := 367) (p3 := 107) (p4 := 10) (n := 4) (n_3 (d + 1)) (by decide) (by decide) rfl rfl (by decide +kernel) (by decide) (by decide +kernel) (by decide +kernel) (by decide +kernel) rfl (by decide +kernel) (fun _ => ⟨rfl, rfl⟩) ⟨Nat.le_of_ble_eq_true rfl, Nat.le_of_ble_eq_true rfl⟩ (by decide) (fun a11 d11 H locs e S => ?_)
  subst e
  refine ci_sub (d := d + 1) hx hl hls S (pc := 150) (f := 16) (i := 91) (i1 := 84) (i2 := 86) (p := 405) (p1 := 366) (p2 := 367) (p3 := 107) (p4 := 10) (n := 4) (n_3 (d + 1)) (by decide) (by decide) rfl rfl (by decide +kernel) (by decide) (by decide +kernel) (by decide +kernel) (by decide +kernel) rfl (by decide +kernel) (fun _ => ⟨rfl, rfl⟩) ⟨Nat.le_of_ble_eq_true rfl, Nat.le_of_ble_eq_true rfl⟩ (by decide) (fun a12 d12 H locs e S => ?_)
  subst e
  refine ci_end hx rfl (ci_fin S (sc := (fun _ => 0))
    (fun f hf => by
    match f, hf with
    | 0, _ => rfl
    | 1, _ => rfl
    | 2, _ => rfl
    | 3, _ => rfl
    | 4, _ => rfl
    | 5, _ => rfl
    | 6, _ => rfl
    | 7, _ => rfl
    | 8, _ => rfl
    | 9, _ => rfl
    | 10, _ => rfl
    | 11, _ => rfl
    | 12, _ => rfl
    | 13, _ => rfl
    | 14, _ => rfl
    | 15, _ => rfl
    | 16, _ => rfl
    | k + 17, h => exact absurd (show k + 17 < 17 from h) (by omega))
    (fun f hf => by
    match f, hf with
    | 0, _ => exact fun h _ => absurd h (by decide)
    | 1, _ => exact fun _ h => absurd h (by decide)
    | 2, _ => exact fun _ h => absurd h (by decide)
    | 3, _ => exact fun _ h => absurd h (by decide)
    | 4, _ => exact fun _ h => absurd h (by decide)
    | 5, _ => exact fun h _ => absurd h (by decide)
    | 6, _ => exact fun _ h => absurd h (by decide)
    | 7, _ => exact fun h _ => absurd h (by decide)
    | 8, _ => exact fun _ h => absurd h (by decide)
    | 9, _ => exact fun h _ => absurd h (by decide)
    | 10, _ => exact fun _ h => absurd h (by decide)
    | 11, _ => exact fun _ h => absurd h (by decide)
    | 12, _ => exact fun h _ => absurd h (by decide)
    | 13, _ => exact fun _ h => absurd h (by decide)
    | 14, _ => exact fun _ h => absurd h (by decide)
    | 15, _ => exact fun _ h => absurd h (by decide)
    | 16, _ => exact fun _ h => absurd h (by decide)
    | k + 17, h => exact absurd (show k + 17 < 17 from h) (by omega))
    (by decide) (fun f => by constructor <;> (try dsimp only) <;> (repeat' split) <;> omega) (fun f => by constructor <;> (try dsimp only) <;> (repeat' split) <;> omega)) S.2.2.2 rfl (by decide +kernel) ⟨Nat.le_of_ble_eq_true rfl, Nat.le_of_ble_eq_true rfl⟩
def mX9_init : ab_M := ((yX9_init, cX9_init, 1, none), ([], [], [], true, true, 0), (false, 9, 0))
set_option maxRecDepth 100000 in
set_option maxHeartbeats 4000000 in
theorem n_9 (d : Nat) : ci_Ct (d + 1) 28 57400 mX9_init 9 [9] [i_m] := by
  refine ci_intro (L := (fun f => if f = 3 then 55 else if f = 4 then 55 else if f = 5 then 550 else if f = 16 then 700 else if f = 25 then 24 else if f = 26 then 24 else if f ≤ 30 then 13824 else if f ≤ 34 then 48 else if f = 35 then 24 else if f ≤ 44 then 48 else 24)) (ci_mok_of 1190 108 1189 (by decide +kernel)) (fun x h0 ls hx hl hls S => ?_)
  refine ci_obj hx hl hls rfl (i := 3) (p := 1191) (by decide +kernel) (by decide +kernel) ?_
  refine ci_int hx hl S (pc := 4) (f := 2) (i := 9) (k := 1) (p := 1194) (n := (-1)) (by decide) (by decide) rfl (by decide +kernel) (by decide +kernel) rfl rfl (fun H locs S => ?_)
  refine ci_arr hx hl S (pc := 9) (f := 3) (i := 13) (k := 2) (p := 1195) (p2 := 190) (n := 55) (ty := .int) (by decide) (by decide) rfl (by decide +kernel) (by decide +kernel) (by decide +kernel) rfl (Or.inl rfl) rfl ⟨by decide, by decide⟩ (fun _ => ⟨rfl, rfl⟩) ⟨Nat.le_of_ble_eq_true rfl, Nat.le_of_ble_eq_true rfl⟩ (fun a1 H locs S => ?_)
  refine ci_arr hx hl S (pc := 17) (f := 4) (i := 17) (k := 2) (p := 1196) (p2 := 190) (n := 55) (ty := .int) (by decide) (by decide) rfl (by decide +kernel) (by decide +kernel) (by decide +kernel) rfl (Or.inl rfl) rfl ⟨by decide, by decide⟩ (fun _ => ⟨rfl, rfl⟩) ⟨Nat.le_of_ble_eq_true rfl, Nat.le_of_ble_eq_true rfl⟩ (fun a2 H locs S => ?_)
  refine ci_arr hx hl S (pc := 25) (f := 5) (i := 20) (k := 3) (p := 1197) (p2 := 190) (n := 550) (ty := .int) (by decide) (by decide) rfl (by decide +kernel) (by decide +kernel) (by decide +kernel) rfl (Or.inl rfl) rfl ⟨by decide, by decide⟩ (fun _ => ⟨rfl, rfl⟩) ⟨Nat.le_of_ble_eq_true rfl, Nat.le_of_ble_eq_true rfl⟩ (fun a3 H locs S => ?_)
  refine ci_arr hx hl S (pc := 34) (f := 16) (i := 23) (k := 3) (p := 1208) (p2 := 189) (n := 700) (ty := .byte) (by decide) (by decide) rfl (by decide +kernel) (by decide +kernel) (by decide +kernel) rfl (Or.inr (Or.inl rfl)) rfl ⟨by decide, by decide⟩ (fun _ => ⟨rfl, rfl⟩) ⟨Nat.le_of_ble_eq_true rfl, Nat.le_of_ble_eq_true rfl⟩ (fun a4 H locs S => ?_)
  refine ci_arr hx hl S (pc := 43) (f := 25) (i := 27) (k := 2) (p := 1217) (p2 := 190) (n := 24) (ty := .int) (by decide) (by decide) rfl (by decide +kernel) (by decide +kernel) (by decide +kernel) rfl (Or.inl rfl) rfl ⟨by decide, by decide⟩ (fun _ => ⟨rfl, rfl⟩) ⟨Nat.le_of_ble_eq_true rfl, Nat.le_of_ble_eq_true rfl⟩ (fun a5 H locs S => ?_)
  refine ci_arr hx hl S (pc := 51) (f := 26) (i := 30) (k := 2) (p := 1218) (p2 := 190) (n := 24) (ty := .int) (by decide) (by decide) rfl (by decide +kernel) (by decide +kernel) (by decide +kernel) rfl (Or.inl rfl) rfl ⟨by decide, by decide⟩ (fun _ => ⟨rfl, rfl⟩) ⟨Nat.le_of_ble_eq_true rfl, Nat.le_of_ble_eq_true rfl⟩ (fun a6 H locs S => ?_)
  refine ci_arr hx hl S (pc := 59) (f := 27) (i := 33) (k := 3) (p := 1219) (p2 := 190) (n := 13824) (ty := .int) (by decide) (by decide) rfl (by decide +kernel) (by decide +kernel) (by decide +kernel) rfl (Or.inl rfl) rfl ⟨by decide, by decide⟩ (fun _ => ⟨rfl, rfl⟩) ⟨Nat.le_of_ble_eq_true rfl, Nat.le_of_ble_eq_true rfl⟩ (fun a7 H locs S => ?_)
  refine ci_arr hx hl S (pc := 68) (f := 28) (i := 36) (k := 3) (p := 1220) (p2 := 190) (n := 13824) (ty := .int) (by decide) (by decide) rfl (by decide +kernel) (by decide +kernel) (by decide +kernel) rfl (Or.inl rfl) rfl ⟨by decide, by decide⟩ (fun _ => ⟨rfl, rfl⟩) ⟨Nat.le_of_ble_eq_true rfl, Nat.le_of_ble_eq_true rfl⟩ (fun a8 H locs S => ?_)
  refine ci_arr hx hl S (pc := 77) (f := 29) (i := 39) (k := 3) (p := 1221) (p2 := 190) (n := 13824) (ty := .int) (by decide) (by decide) rfl (by decide +kernel) (by decide +kernel) (by decide +kernel) rfl (Or.inl rfl) rfl ⟨by decide, by decide⟩ (fun _ => ⟨rfl, rfl⟩) ⟨Nat.le_of_ble_eq_true rfl, Nat.le_of_ble_eq_true rfl⟩ (fun a9 H locs S => ?_)
  refine ci_arr hx hl S (pc := 86) (f := 30) (i := 42) (k := 3) (p := 1222) (p2 := 284) (n := 13824) (ty := .long) (by decide) (by decide) rfl (by decide +kernel) (by decide +kernel) (by decide +kernel) rfl (Or.inr (Or.inr (Or.inl rfl))) rfl ⟨by decide, by decide⟩ (fun _ => ⟨rfl, rfl⟩) ⟨Nat.le_of_ble_eq_true rfl, Nat.le_of_ble_eq_true rfl⟩ (fun a10 H locs S => ?_)
  refine ci_arr hx hl S (pc := 95) (f := 31) (i := 46) (k := 2) (p := 1223) (p2 := 190) (n := 48) (ty := .int) (by decide) (by decide) rfl (by decide +kernel) (by decide +kernel) (by decide +kernel) rfl (Or.inl rfl) rfl ⟨by decide, by decide⟩ (fun _ => ⟨rfl, rfl⟩) ⟨Nat.le_of_ble_eq_true rfl, Nat.le_of_ble_eq_true rfl⟩ (fun a11 H locs S => ?_)
  refine ci_arr hx hl S (pc := 103) (f := 32) (i := 49) (k := 2) (p := 1224) (p2 := 190) (n := 48) (ty := .int) (by decide) (by decide) rfl (by decide +kernel) (by decide +kernel) (by decide +kernel) rfl (Or.inl rfl) rfl ⟨by decide, by decide⟩ (fun _ => ⟨rfl, rfl⟩) ⟨Nat.le_of_ble_eq_true rfl, Nat.le_of_ble_eq_true rfl⟩ (fun a12 H locs S => ?_)
  refine ci_arr hx hl S (pc := 111) (f := 33) (i := 52) (k := 2) (p := 1225) (p2 := 190) (n := 48) (ty := .int) (by decide) (by decide) rfl (by decide +kernel) (by decide +kernel) (by decide +kernel) rfl (Or.inl rfl) rfl ⟨by decide, by decide⟩ (fun _ => ⟨rfl, rfl⟩) ⟨Nat.le_of_ble_eq_true rfl, Nat.le_of_ble_eq_true rfl⟩ (fun a13 H locs S => ?_)
  refine ci_arr hx hl S (pc := 119) (f := 34) (i := 55) (k := 2) (p := 1226) (p2 := 190) (n := 48) (ty := .int) (by decide) (by decide) rfl (by decide +kernel) (by decide +kernel) (by decide +kernel) rfl (Or.inl rfl) rfl ⟨by decide, by decide⟩ (fun _ => ⟨rfl, rfl⟩) ⟨Nat.le_of_ble_eq_true rfl, Nat.le_of_ble_eq_true rfl⟩ (fun a14 H locs S => ?_)
  refine ci_arr hx hl S (pc := 127) (f := 35) (i := 58) (k := 2) (p := 1227) (p2 := 190) (n := 24) (ty := .int) (by decide) (by decide) rfl (by decide +kernel) (by decide +kernel) (by decide +kernel) rfl (Or.inl rfl) rfl ⟨by decide, by decide⟩ (fun _ => ⟨rfl, rfl⟩) ⟨Nat.le_of_ble_eq_true rfl, Nat.le_of_ble_eq_true rfl⟩ (fun a15 H locs S => ?_)
  refine ci_arr hx hl S (pc := 135) (f := 36) (i := 61) (k := 2) (p := 1228) (p2 := 190) (n := 48) (ty := .int) (by decide) (by decide) rfl (by decide +kernel) (by decide +kernel) (by decide +kernel) rfl (Or.inl rfl) rfl ⟨by decide, by decide⟩ (fun _ => ⟨rfl, rfl⟩) ⟨Nat.le_of_ble_eq_true rfl, Nat.le_of_ble_eq_true rfl⟩ (fun a16 H locs S => ?_)
  refine ci_arr hx hl S (pc := 143) (f := 37) (i := 64) (k := 2) (p := 1229) (p2 := 190) (n := 48) (ty := .int) (by decide) (by decide) rfl (by decide +kernel) (by decide +kernel) (by decide +kernel) rfl (Or.inl rfl) rfl ⟨by decide, by decide⟩ (fun _ => ⟨rfl, rfl⟩) ⟨Nat.le_of_ble_eq_true rfl, Nat.le_of_ble_eq_true rfl⟩ (fun a17 H locs S => ?_)
  refine ci_arr hx hl S (pc := 151) (f := 38) (i := 67) (k := 2) (p := 1230) (p2 := 190) (n := 48) (ty := .int) (by decide) (by decide) rfl (by decide +kernel) (by decide +kernel) (by decide +kernel) rfl (Or.inl rfl) rfl ⟨by decide, by decide⟩ (fun _ => ⟨rfl, rfl⟩) ⟨Nat.le_of_ble_eq_true rfl, Nat.le_of_ble_eq_true rfl⟩ (fun a18 H locs S => ?_)
  refine ci_arr hx hl S (pc := 159) (f := 39) (i := 70) (k := 2) (p := 1231) (p2 := 190) (n := 48) (ty := .int) (by decide) (by decide) rfl (by decide +kernel) (by decide +kernel) (by decide +kernel) rfl (Or.inl rfl) rfl ⟨by decide, by decide⟩ (fun _ => ⟨rfl, rfl⟩) ⟨Nat.le_of_ble_eq_true rfl, Nat.le_of_ble_eq_true rfl⟩ (fun a19 H locs S => ?_)
  refine ci_arr hx hl S (pc := 167) (f := 42) (i := 73) (k := 2) (p := 1234) (p2 := 190) (n := 48) (ty := .int) (by decide) (by decide) rfl (by decide +kernel) (by decide +kernel) (by decide +kernel) rfl (Or.inl rfl) rfl ⟨by decide, by decide⟩ (fun _ => ⟨rfl, rfl⟩) ⟨Nat.le_of_ble_eq_true rfl, Nat.le_of_ble_eq_true rfl⟩ (fun a20 H locs S => ?_)
  refine ci_arr hx hl S (pc := 175) (f := 43) (i := 76) (k := 2) (p := 1235) (p2 := 190) (n := 48) (ty := .int) (by decide) (by decide) rfl (by decide +kernel) (by decide +kernel) (by decide +kernel) rfl (Or.inl rfl) rfl ⟨by decide, by decide⟩ (fun _ => ⟨rfl, rfl⟩) ⟨Nat.le_of_ble_eq_true rfl, Nat.le_of_ble_eq_true rfl⟩ (fun a21 H locs S => ?_)
  refine ci_arr hx hl S (pc := 183) (f := 44) (i := 79) (k := 2) (p := 1236) (p2 := 190) (n := 48) (ty := .int) (by decide) (by decide) rfl (by decide +kernel) (by decide +kernel) (by decide +kernel) rfl (Or.inl rfl) rfl ⟨by decide, by decide⟩ (fun _ => ⟨rfl, rfl⟩) ⟨Nat.le_of_ble_eq_true rfl, Nat.le_of_ble_eq_true rfl⟩ (fun a22 H locs S => ?_)
  refine ci_arr hx hl S (pc := 191) (f := 45) (i := 82) (k := 2) (p := 1237) (p2 := 190) (n := 24) (ty := .int) (by decide) (by decide) rfl (by decide +kernel) (by decide +kernel) (by decide +kernel) rfl (Or.inl rfl) rfl ⟨by decide, by decide⟩ (fun _ => ⟨rfl, rfl⟩) ⟨Nat.le_of_ble_eq_true rfl, Nat.le_of_ble_eq_true rfl⟩ (fun a23 H locs S => ?_)
  refine ci_arr hx hl S (pc := 199) (f := 46) (i := 85) (k := 2) (p := 1238) (p2 := 190) (n := 24) (ty := .int) (by decide) (by decide) rfl (by decide +kernel) (by decide +kernel) (by decide +kernel) rfl (Or.inl rfl) rfl ⟨by decide, by decide⟩ (fun _ => ⟨rfl, rfl⟩) ⟨Nat.le_of_ble_eq_true rfl, Nat.le_of_ble_eq_true rfl⟩ (fun a24 H locs S => ?_)
  refine ci_arr hx hl S (pc := 207) (f := 47) (i := 88) (k := 2) (p := 1239) (p2 := 190) (n := 24) (ty := .int) (by decide) (by decide) rfl (by decide +kernel) (by decide +kernel) (by decide +kernel) rfl (Or.inl rfl) rfl ⟨by decide, by decide⟩ (fun _ => ⟨rfl, rfl⟩) ⟨Nat.le_of_ble_eq_true rfl, Nat.le_of_ble_eq_true rfl⟩ (fun a25 H locs S => ?_)
  refine ci_arr hx hl S (pc := 215) (f := 48) (i := 91) (k := 2) (p := 1240) (p2 := 190) (n := 24) (ty := .int) (by decide) (by decide) rfl (by decide +kernel) (by decide +kernel) (by decide +kernel) rfl (Or.inl rfl) rfl ⟨by decide, by decide⟩ (fun _ => ⟨rfl, rfl⟩) ⟨Nat.le_of_ble_eq_true rfl, Nat.le_of_ble_eq_true rfl⟩ (fun a26 H locs S => ?_)
  refine ci_arr hx hl S (pc := 223) (f := 49) (i := 94) (k := 2) (p := 1241) (p2 := 190) (n := 24) (ty := .int) (by decide) (by decide) rfl (by decide +kernel) (by decide +kernel) (by decide +kernel) rfl (Or.inl rfl) rfl ⟨by decide, by decide⟩ (fun _ => ⟨rfl, rfl⟩) ⟨Nat.le_of_ble_eq_true rfl, Nat.le_of_ble_eq_true rfl⟩ (fun a27 H locs S => ?_)
  refine ci_arr hx hl S (pc := 231) (f := 50) (i := 97) (k := 2) (p := 1242) (p2 := 190) (n := 24) (ty := .int) (by decide) (by decide) rfl (by decide +kernel) (by decide +kernel) (by decide +kernel) rfl (Or.inl rfl) rfl ⟨by decide, by decide⟩ (fun _ => ⟨rfl, rfl⟩) ⟨Nat.le_of_ble_eq_true rfl, Nat.le_of_ble_eq_true rfl⟩ (fun a28 H locs S => ?_)
  refine ci_end hx rfl (ci_fin S (sc := (fun f => if f = 2 then -1 else 0))
    (fun f hf => by
    match f, hf with
    | 0, _ => rfl
    | 1, _ => rfl
    | 2, _ => rfl
    | 3, _ => rfl
    | 4, _ => rfl
    | 5, _ => rfl
    | 6, _ => rfl
    | 7, _ => rfl
    | 8, _ => rfl
    | 9, _ => rfl
    | 10, _ => rfl
    | 11, _ => rfl
    | 12, _ => rfl
    | 13, _ => rfl
    | 14, _ => rfl
    | 15, _ => rfl
    | 16, _ => rfl
    | 17, _ => rfl
    | 18, _ => rfl
    | 19, _ => rfl
    | 20, _ => rfl
    | 21, _ => rfl
    | 22, _ => rfl
    | 23, _ => rfl
    | 24, _ => rfl
    | 25, _ => rfl
    | 26, _ => rfl
    | 27, _ => rfl
    | 28, _ => rfl
    | 29, _ => rfl
    | 30, _ => rfl
    | 31, _ => rfl
    | 32, _ => rfl
    | 33, _ => rfl
    | 34, _ => rfl
    | 35, _ => rfl
    | 36, _ => rfl
    | 37, _ => rfl
    | 38, _ => rfl
    | 39, _ => rfl
    | 40, _ => rfl
    | 41, _ => rfl
    | 42, _ => rfl
    | 43, _ => rfl
    | 44, _ => rfl
    | 45, _ => rfl
    | 46, _ => rfl
    | 47, _ => rfl
    | 48, _ => rfl
    | 49, _ => rfl
    | 50, _ => rfl
    | 51, _ => rfl
    | k + 52, h => exact absurd (show k + 52 < 52 from h) (by omega))
    (fun f hf => by
    match f, hf with
    | 0, _ => exact fun h _ => absurd h (by decide)
    | 1, _ => exact fun h _ => absurd h (by decide)
    | 2, _ => exact fun h _ => absurd h (by decide)
    | 3, _ => exact fun _ _ => rfl
    | 4, _ => exact fun _ _ => rfl
    | 5, _ => exact fun _ _ => rfl
    | 6, _ => exact fun h _ => absurd h (by decide)
    | 7, _ => exact fun h _ => absurd h (by decide)
    | 8, _ => exact fun h _ => absurd h (by decide)
    | 9, _ => exact fun h _ => absurd h (by decide)
    | 10, _ => exact fun h _ => absurd h (by decide)
    | 11, _ => exact fun h _ => absurd h (by decide)
    | 12, _ => exact fun h _ => absurd h (by decide)
    | 13, _ => exact fun h _ => absurd h (by decide)
    | 14, _ => exact fun h _ => absurd h (by decide)
    | 15, _ => exact fun h _ => absurd h (by decide)
    | 16, _ => exact fun _ _ => rfl
    | 17, _ => exact fun h _ => absurd h (by decide)
    | 18, _ => exact fun h _ => absurd h (by decide)
    | 19, _ => exact fun h _ => absurd h (by decide)
    | 20, _ => exact fun h _ => absurd h (by decide)
    | 21, _ => exact fun h _ => absurd h (by decide)
    | 22, _ => exact fun h _ => absurd h (by decide)
    | 23, _ => exact fun h _ => absurd h (by decide)
    | 24, _ => exact fun h _ => absurd h (by decide)
    | 25, _ => exact fun _ _ => rfl
    | 26, _ => exact fun _ _ => rfl
    | 27, _ => exact fun _ _ => rfl
    | 28, _ => exact fun _ _ => rfl
    | 29, _ => exact fun _ _ => rfl
    | 30, _ => exact fun _ _ => rfl
    | 31, _ => exact fun _ _ => rfl
    | 32, _ => exact fun _ _ => rfl
    | 33, _ => exact fun _ _ => rfl
    | 34, _ => exact fun _ _ => rfl
    | 35, _ => exact fun _ _ => rfl
    | 36, _ => exact fun _ _ => rfl
    | 37, _ => exact fun _ _ => rfl
    | 38, _ => exact fun _ _ => rfl
    | 39, _ => exact fun _ _ => rfl
    | 40, _ => exact fun h _ => absurd h (by decide)
    | 41, _ => exact fun h _ => absurd h (by decide)
    | 42, _ => exact fun _ _ => rfl
    | 43, _ => exact fun _ _ => rfl
    | 44, _ => exact fun _ _ => rfl
    | 45, _ => exact fun _ _ => rfl
    | 46, _ => exact fun _ _ => rfl
    | 47, _ => exact fun _ _ => rfl
    | 48, _ => exact fun _ _ => rfl
    | 49, _ => exact fun _ _ => rfl
    | 50, _ => exact fun _ _ => rfl
    | 51, _ => exact fun h _ => absurd h (by decide)
    | k + 52, h => exact absurd (show k + 52 < 52 from h) (by omega))
    (by decide) (fun f => by constructor <;> (try dsimp only) <;> (repeat' split) <;> omega) (fun f => by constructor <;> (try dsimp only) <;> (repeat' split) <;> omega)) S.2.2.2 rfl (by decide +kernel) ⟨Nat.le_of_ble_eq_true rfl, Nat.le_of_ble_eq_true rfl⟩
