def Rel (I : HI) (J : HJ) : Prop := I 0 0 = 0
theorem sim_begin {I : HI} {J : HJ} (hR : Rel I J) (a0 : Int32) (a1 : Int32) (a2 : Int32) : ∃ (r : Int32) (I1 : HI) (J1 : HJ) (I2 : HI) (J2 : HJ), f_X10_begin a0 a1 a2 I J = some (r, I1, J1) ∧ f_X11_begin a0 a1 a2 I1 J1 = some (r, I2, J2) ∧ Rel I2 J2 := by sorry
theorem sim_set {I : HI} {J : HJ} (hR : Rel I J) (a0 : Int32) (a1 : Int32) : ∃ (r : Int32) (I1 : HI) (I2 : HI), f_X10_set a0 a1 I J = some (r, I1) ∧ f_X11_set a0 a1 I1 J = some (r, I2) ∧ Rel I2 J := by sorry
theorem sim_seed {I : HI} {J : HJ} (hR : Rel I J) (a0 : Int32) : ∃ (r : Int32) (I1 : HI) (I2 : HI), f_X10_seed a0 I J = some (r, I1) ∧ f_X11_seed a0 I1 J = some (r, I2) ∧ Rel I2 J := by sorry
theorem sim_run {I : HI} {J : HJ} (hR : Rel I J) (a0 : Int32) : ∃ (r : Int32) (I1 : HI) (J1 : HJ) (I2 : HI) (J2 : HJ), f_X10_run a0 I J = some (r, I1, J1) ∧ f_X11_run a0 I1 J1 = some (r, I2, J2) ∧ Rel I2 J2 := by sorry
theorem sim_tap {I : HI} {J : HJ} (hR : Rel I J) (a0 : Int32) : ∃ (r : Int32), f_X10_tap a0 I J = some r ∧ f_X11_tap a0 I J = some r ∧ Rel I J := by sorry
theorem sim_water {I : HI} {J : HJ} (hR : Rel I J) : ∃ (r : Int64), f_X10_water I J = some r ∧ f_X11_water I J = some r ∧ Rel I J := by sorry
theorem sim_feed {I : HI} {J : HJ} (hR : Rel I J) (a0 : Int64) (a1 : Int32) : ∃ (r : Int32) (I1 : HI) (I2 : HI), f_X10_feed a0 a1 I J = some (r, I1) ∧ f_X11_feed a0 a1 I1 J = some (r, I2) ∧ Rel I2 J := by sorry
theorem sim_read {I : HI} {J : HJ} (hR : Rel I J) : ∃ (r : Int32) (I1 : HI) (I2 : HI), f_X10_read I J = some (r, I1) ∧ f_X11_read I1 J = some (r, I2) ∧ Rel I2 J := by sorry
theorem sim_says {I : HI} {J : HJ} (hR : Rel I J) (a0 : Int32) : ∃ (r : Int32) (I1 : HI) (I2 : HI) (J2 : HJ), f_X10_says a0 I J = some (r, I1) ∧ f_X11_says a0 I1 J = some (r, I2, J2) ∧ Rel I2 J2 := by sorry
theorem sim_tell {I : HI} {J : HJ} (hR : Rel I J) (a0 : Int32) : ∃ (r : Int32) (I1 : HI) (I2 : HI), f_X10_tell a0 I J = some (r, I1) ∧ f_X11_tell a0 I1 J = some (r, I2) ∧ Rel I2 J := by sorry
theorem sim_clear {I : HI} {J : HJ} (hR : Rel I J) : ∃ (r : Int32) (I1 : HI) (I2 : HI), f_X10_clear I J = some (r, I1) ∧ f_X11_clear I1 J = some (r, I2) ∧ Rel I2 J := by sorry
theorem sim_time {I : HI} {J : HJ} (hR : Rel I J) (a0 : Int32) : ∃ (r : Int32), f_X10_time a0 I J = some r ∧ f_X11_time a0 I J = some r ∧ Rel I J := by sorry
theorem sim_period {I : HI} {J : HJ} (hR : Rel I J) : ∃ (r : Int32) (I2 : HI), f_X10_period I J = some r ∧ f_X11_period I J = some (r, I2) ∧ Rel I2 J := by sorry
theorem sim_kind {I : HI} {J : HJ} (hR : Rel I J) : ∃ (r : Int32) (I2 : HI), f_X10_kind I J = some r ∧ f_X11_kind I J = some (r, I2) ∧ Rel I2 J := by sorry
theorem sim_order {I : HI} {J : HJ} (hR : Rel I J) : ∃ (r : Int32) (I2 : HI), f_X10_order I J = some r ∧ f_X11_order I J = some (r, I2) ∧ Rel I2 J := by sorry
theorem sim_hits {I : HI} {J : HJ} (hR : Rel I J) (a0 : Int32) (a1 : Int32) : ∃ (r : Int32) (I2 : HI), f_X10_hits a0 a1 I J = some r ∧ f_X11_hits a0 a1 I J = some (r, I2) ∧ Rel I2 J := by sorry
theorem sim_ahead {I : HI} {J : HJ} (hR : Rel I J) (a0 : Int32) : ∃ (r : Int32) (I2 : HI), f_X10_ahead a0 I J = some r ∧ f_X11_ahead a0 I J = some (r, I2) ∧ Rel I2 J := by sorry
theorem sim_rule {I : HI} {J : HJ} (hR : Rel I J) (a0 : Int32) (a1 : Int32) : ∃ (r : Int32) (I2 : HI), f_X10_rule a0 a1 I J = some r ∧ f_X11_rule a0 a1 I J = some (r, I2) ∧ Rel I2 J := by sorry
theorem sim_drift {I : HI} {J : HJ} (hR : Rel I J) (a0 : Int32) : ∃ (r : Int32) (I2 : HI), f_X10_drift a0 I J = some r ∧ f_X11_drift a0 I J = some (r, I2) ∧ Rel I2 J := by sorry
theorem sim_span {I : HI} {J : HJ} (hR : Rel I J) (a0 : Int32) : ∃ (r : Int32) (I2 : HI), f_X10_span a0 I J = some r ∧ f_X11_span a0 I J = some (r, I2) ∧ Rel I2 J := by sorry
theorem sim_grid {I : HI} {J : HJ} (hR : Rel I J) (a0 : Int32) : ∃ (r : Int32) (I1 : HI) (J1 : HJ) (I2 : HI) (J2 : HJ), f_X10_grid a0 I J = some (r, I1, J1) ∧ f_X11_grid a0 I1 J1 = some (r, I2, J2) ∧ Rel I2 J2 := by sorry
theorem sim_doubling {I : HI} {J : HJ} (hR : Rel I J) (a0 : Int32) (a1 : Int32) : ∃ (r : Int32) (I1 : HI) (J1 : HJ) (I2 : HI) (J2 : HJ), f_X10_doubling a0 a1 I J = some (r, I1, J1) ∧ f_X11_doubling a0 a1 I1 J1 = some (r, I2, J2) ∧ Rel I2 J2 := by sorry
theorem sim_windows {I : HI} {J : HJ} (hR : Rel I J) (a0 : Int32) (a1 : Int32) : ∃ (r : Int32) (I1 : HI) (J1 : HJ) (I2 : HI) (J2 : HJ), f_X10_windows a0 a1 I J = some (r, I1, J1) ∧ f_X11_windows a0 a1 I1 J1 = some (r, I2, J2) ∧ Rel I2 J2 := by sorry
theorem sim_touch {I : HI} {J : HJ} (hR : Rel I J) (a0 : Int32) : ∃ (r : Int32) (I1 : HI) (J1 : HJ) (I2 : HI) (J2 : HJ), f_X10_touch a0 I J = some (r, I1, J1) ∧ f_X11_touch a0 I1 J1 = some (r, I2, J2) ∧ Rel I2 J2 := by sorry
theorem sim_lost {I : HI} {J : HJ} (hR : Rel I J) (a0 : Int32) : ∃ (r : Int32) (I1 : HI) (J1 : HJ) (I2 : HI) (J2 : HJ), f_X10_lost a0 I J = some (r, I1, J1) ∧ f_X11_lost a0 I1 J1 = some (r, I2, J2) ∧ Rel I2 J2 := by sorry
theorem sim_prove {I : HI} {J : HJ} (hR : Rel I J) (a0 : Int32) : ∃ (r : Int32) (I1 : HI) (J1 : HJ) (I2 : HI) (J2 : HJ), f_X10_prove a0 I J = some (r, I1, J1) ∧ f_X11_prove a0 I1 J1 = some (r, I2, J2) ∧ Rel I2 J2 := by sorry
theorem sim_row {I : HI} {J : HJ} (hR : Rel I J) (a0 : Int32) (a1 : Int32) : ∃ (r : Int32), f_X10_row a0 a1 I J = some r ∧ f_X11_row a0 a1 I J = some r ∧ Rel I J := by sorry
theorem sim_alterRow {I : HI} {J : HJ} (hR : Rel I J) (a0 : Int32) (a1 : Int32) (a2 : Int32) : ∃ (r : Int32) (I1 : HI) (I2 : HI), f_X10_alterRow a0 a1 a2 I J = some (r, I1) ∧ f_X11_alterRow a0 a1 a2 I1 J = some (r, I2) ∧ Rel I2 J := by sorry
theorem sim_judge {I : HI} {J : HJ} (hR : Rel I J) : ∃ (r : Int32) (I1 : HI) (J1 : HJ) (I2 : HI) (J2 : HJ), f_X10_judge I J = some (r, I1, J1) ∧ f_X11_judge I1 J1 = some (r, I2, J2) ∧ Rel I2 J2 := by sorry
theorem sim_record {I : HI} {J : HJ} (hR : Rel I J) : ∃ (r : Int32) (I1 : HI) (I2 : HI), f_X10_record I J = some (r, I1) ∧ f_X11_record I1 J = some (r, I2) ∧ Rel I2 J := by sorry
theorem sim_recorded {I : HI} {J : HJ} (hR : Rel I J) (a0 : Int32) (a1 : Int32) : ∃ (r : Int32) (I2 : HI), f_X10_recorded a0 a1 I J = some r ∧ f_X11_recorded a0 a1 I J = some (r, I2) ∧ Rel I2 J := by sorry
theorem sim_alike {I : HI} {J : HJ} (hR : Rel I J) (a0 : Int32) (a1 : Int32) : ∃ (r : Int32), f_X10_alike a0 a1 I J = some r ∧ f_X11_alike a0 a1 I J = some r ∧ Rel I J := by sorry
theorem sim_sheet {I : HI} {J : HJ} (hR : Rel I J) (a0 : Int32) (a1 : Int32) (a2 : Int32) : ∃ (r : Int32) (I1 : HI) (I2 : HI), f_X10_sheet a0 a1 a2 I J = some (r, I1) ∧ f_X11_sheet a0 a1 a2 I1 J = some (r, I2) ∧ Rel I2 J := by sorry
theorem sim_put {I : HI} {J : HJ} (hR : Rel I J) (a0 : Int32) (a1 : Int32) (a2 : Int32) : ∃ (r : Int32) (I1 : HI) (I2 : HI), f_X10_put a0 a1 a2 I J = some (r, I1) ∧ f_X11_put a0 a1 a2 I1 J = some (r, I2) ∧ Rel I2 J := by sorry
theorem sim_item {I : HI} {J : HJ} (hR : Rel I J) (a0 : Int32) (a1 : Int32) (a2 : Int32) : ∃ (r : Int32), f_X10_item a0 a1 a2 I J = some r ∧ f_X11_item a0 a1 a2 I J = some r ∧ Rel I J := by sorry
theorem sim_times {I : HI} {J : HJ} (hR : Rel I J) (a0 : Int32) (a1 : Int32) (a2 : Int32) : ∃ (r : Int32) (I1 : HI) (I2 : HI), f_X10_times a0 a1 a2 I J = some (r, I1) ∧ f_X11_times a0 a1 a2 I1 J = some (r, I2) ∧ Rel I2 J := by sorry
theorem sim_shelf {I : HI} {J : HJ} (hR : Rel I J) (a0 : Int32) (a1 : Int32) (a2 : Int32) : ∃ (r : Int32) (I1 : HI) (I2 : HI), f_X10_shelf a0 a1 a2 I J = some (r, I1) ∧ f_X11_shelf a0 a1 a2 I1 J = some (r, I2) ∧ Rel I2 J := by sorry
theorem sim_taken {I : HI} {J : HJ} (hR : Rel I J) (a0 : Int32) (a1 : Int32) : ∃ (r : Int32) (I2 : HI) (J2 : HJ), f_X10_taken a0 a1 I J = some r ∧ f_X11_taken a0 a1 I J = some (r, I2, J2) ∧ Rel I2 J2 := by sorry
theorem sim_act {I : HI} {J : HJ} (hR : Rel I J) (a0 : Int32) (a1 : Int32) (a2 : Int32) : ∃ (r : Int32) (I1 : HI) (I2 : HI) (J2 : HJ), f_X10_act a0 a1 a2 I J = some (r, I1) ∧ f_X11_act a0 a1 a2 I1 J = some (r, I2, J2) ∧ Rel I2 J2 := by sorry
theorem sim_trace {I : HI} {J : HJ} (hR : Rel I J) (a0 : Int32) : ∃ (r : Int32), f_X10_trace a0 I J = some r ∧ f_X11_trace a0 I J = some r ∧ Rel I J := by sorry
theorem sim_many {I : HI} {J : HJ} (hR : Rel I J) (a0 : Int32) : ∃ (r : Int32), f_X10_many a0 I J = some r ∧ f_X11_many a0 I J = some r ∧ Rel I J := by sorry
theorem sim_keep {I : HI} {J : HJ} (hR : Rel I J) : ∃ (r : Int32) (I1 : HI) (J1 : HJ) (I2 : HI) (J2 : HJ), f_X10_keep I J = some (r, I1, J1) ∧ f_X11_keep I1 J1 = some (r, I2, J2) ∧ Rel I2 J2 := by sorry
theorem sim_again {I : HI} {J : HJ} (hR : Rel I J) : ∃ (r : Int32) (I1 : HI) (J1 : HJ) (I2 : HI) (J2 : HJ), f_X10_again I J = some (r, I1, J1) ∧ f_X11_again I1 J1 = some (r, I2, J2) ∧ Rel I2 J2 := by sorry
theorem rel_0 : Rel I0 (fun _ _ => 0) := by sorry
