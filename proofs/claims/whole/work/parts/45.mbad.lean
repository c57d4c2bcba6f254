/-! THE MODEL: closed, BAD, and short methods -/
theorem c_mabout0 {X : Ev} {M : Hp} {m t d r n tn : Nat} {me ri lt : Int32} (hO : M[138]? = some (.inr (6, [.int (0), .int (nI m), .int (nI t), .int (nI d), .int (nI r), .int (nI n), .int (nI (2 ^ m - 1)), .ref (139), .ref (140), .ref (141), .ref (142), .ref (143), .ref (144), .ref (145), .ref (146), .ref (147), .int (nI tn), .int (me), .int (ri), .int (lt), .ref (148), .ref (149), .ref (150), .ref (151), .ref (152), .ref (153), .ref (154)]))) {z0 : Int32} : Cl X 9 jX7_about [.ref (138), .int (z0)] M (some (.int (-3))) M := by
  refine Cl.of (ls := [some (.ref (138)), some (.int (z0))]) (by decide) rfl (Nat.le_of_ble_eq_true rfl) ?_
  refine x_aload_n dX7_about_0 rfl rfl ?_
  refine x_getf (ci := 6) (kf := 0) dX7_about_1 rfl uX7 (by decide) fl_RX7_100 hO rfl ?_
  refine x_if_ne (tgt := 10) dX7_about_4 (by decide) (fun h => False.elim (h rfl)) (fun _ => ?_)
  refine x_bipush (y := -3) dX7_about_7 rfl ?_
  exact x_ireturn_eq dX7_about_9 rfl rfl
theorem c_mbit0 {X : Ev} {M : Hp} {m t d r n tn : Nat} {me ri lt : Int32} (hO : M[138]? = some (.inr (6, [.int (0), .int (nI m), .int (nI t), .int (nI d), .int (nI r), .int (nI n), .int (nI (2 ^ m - 1)), .ref (139), .ref (140), .ref (141), .ref (142), .ref (143), .ref (144), .ref (145), .ref (146), .ref (147), .int (nI tn), .int (me), .int (ri), .int (lt), .ref (148), .ref (149), .ref (150), .ref (151), .ref (152), .ref (153), .ref (154)]))) {z0 : Int32} {z1 : Int32} : Cl X 9 jX7_bit [.ref (138), .int (z0), .int (z1)] M (some (.int (-3))) M := by
  refine Cl.of (ls := [some (.ref (138)), some (.int (z0)), some (.int (z1))]) (by decide) rfl (Nat.le_of_ble_eq_true rfl) ?_
  refine x_aload_n dX7_bit_0 rfl rfl ?_
  refine x_getf (ci := 6) (kf := 0) dX7_bit_1 rfl uX7 (by decide) fl_RX7_100 hO rfl ?_
  refine x_if_ne (tgt := 10) dX7_bit_4 (by decide) (fun h => False.elim (h rfl)) (fun _ => ?_)
  refine x_bipush (y := -3) dX7_bit_7 rfl ?_
  exact x_ireturn_eq dX7_bit_9 rfl rfl
theorem c_mcopy0 {X : Ev} {M : Hp} {m t d r n tn : Nat} {me ri lt : Int32} (hO : M[138]? = some (.inr (6, [.int (0), .int (nI m), .int (nI t), .int (nI d), .int (nI r), .int (nI n), .int (nI (2 ^ m - 1)), .ref (139), .ref (140), .ref (141), .ref (142), .ref (143), .ref (144), .ref (145), .ref (146), .ref (147), .int (nI tn), .int (me), .int (ri), .int (lt), .ref (148), .ref (149), .ref (150), .ref (151), .ref (152), .ref (153), .ref (154)]))) {z0 : Int32} {z1 : Int32} : Cl X 9 jX7_copy [.ref (138), .int (z0), .int (z1)] M (some (.int (-3))) M := by
  refine Cl.of (ls := [some (.ref (138)), some (.int (z0)), some (.int (z1))]) (by decide) rfl (Nat.le_of_ble_eq_true rfl) ?_
  refine x_aload_n dX7_copy_0 rfl rfl ?_
  refine x_getf (ci := 6) (kf := 0) dX7_copy_1 rfl uX7 (by decide) fl_RX7_100 hO rfl ?_
  refine x_if_ne (tgt := 10) dX7_copy_4 (by decide) (fun h => False.elim (h rfl)) (fun _ => ?_)
  refine x_bipush (y := -3) dX7_copy_7 rfl ?_
  exact x_ireturn_eq dX7_copy_9 rfl rfl
theorem c_merase0 {X : Ev} {M : Hp} {m t d r n tn : Nat} {me ri lt : Int32} (hO : M[138]? = some (.inr (6, [.int (0), .int (nI m), .int (nI t), .int (nI d), .int (nI r), .int (nI n), .int (nI (2 ^ m - 1)), .ref (139), .ref (140), .ref (141), .ref (142), .ref (143), .ref (144), .ref (145), .ref (146), .ref (147), .int (nI tn), .int (me), .int (ri), .int (lt), .ref (148), .ref (149), .ref (150), .ref (151), .ref (152), .ref (153), .ref (154)]))) {z0 : Int32} : Cl X 9 jX7_erase [.ref (138), .int (z0)] M (some (.int (-3))) M := by
  refine Cl.of (ls := [some (.ref (138)), some (.int (z0))]) (by decide) rfl (Nat.le_of_ble_eq_true rfl) ?_
  refine x_aload_n dX7_erase_0 rfl rfl ?_
  refine x_getf (ci := 6) (kf := 0) dX7_erase_1 rfl uX7 (by decide) fl_RX7_100 hO rfl ?_
  refine x_if_ne (tgt := 10) dX7_erase_4 (by decide) (fun h => False.elim (h rfl)) (fun _ => ?_)
  refine x_bipush (y := -3) dX7_erase_7 rfl ?_
  exact x_ireturn_eq dX7_erase_9 rfl rfl
theorem c_mfill0 {X : Ev} {M : Hp} {m t d r n tn : Nat} {me ri lt : Int32} (hO : M[138]? = some (.inr (6, [.int (0), .int (nI m), .int (nI t), .int (nI d), .int (nI r), .int (nI n), .int (nI (2 ^ m - 1)), .ref (139), .ref (140), .ref (141), .ref (142), .ref (143), .ref (144), .ref (145), .ref (146), .ref (147), .int (nI tn), .int (me), .int (ri), .int (lt), .ref (148), .ref (149), .ref (150), .ref (151), .ref (152), .ref (153), .ref (154)]))) {z0 : Int32} {z1 : Int64} : Cl X 9 jX7_fill [.ref (138), .int (z0), .long (z1)] M (some (.int (-3))) M := by
  refine Cl.of (ls := [some (.ref (138)), some (.int (z0)), some (.long (z1)), none, none, none]) (by decide) rfl (Nat.le_of_ble_eq_true rfl) ?_
  refine x_aload_n dX7_fill_0 rfl rfl ?_
  refine x_getf (ci := 6) (kf := 0) dX7_fill_1 rfl uX7 (by decide) fl_RX7_100 hO rfl ?_
  refine x_if_ne (tgt := 10) dX7_fill_4 (by decide) (fun h => False.elim (h rfl)) (fun _ => ?_)
  refine x_bipush (y := -3) dX7_fill_7 rfl ?_
  exact x_ireturn_eq dX7_fill_9 rfl rfl
theorem c_mflip0 {X : Ev} {M : Hp} {m t d r n tn : Nat} {me ri lt : Int32} (hO : M[138]? = some (.inr (6, [.int (0), .int (nI m), .int (nI t), .int (nI d), .int (nI r), .int (nI n), .int (nI (2 ^ m - 1)), .ref (139), .ref (140), .ref (141), .ref (142), .ref (143), .ref (144), .ref (145), .ref (146), .ref (147), .int (nI tn), .int (me), .int (ri), .int (lt), .ref (148), .ref (149), .ref (150), .ref (151), .ref (152), .ref (153), .ref (154)]))) {z0 : Int32} {z1 : Int32} : Cl X 9 jX7_flip [.ref (138), .int (z0), .int (z1)] M (some (.int (-3))) M := by
  refine Cl.of (ls := [some (.ref (138)), some (.int (z0)), some (.int (z1)), none]) (by decide) rfl (Nat.le_of_ble_eq_true rfl) ?_
  refine x_aload_n dX7_flip_0 rfl rfl ?_
  refine x_getf (ci := 6) (kf := 0) dX7_flip_1 rfl uX7 (by decide) fl_RX7_100 hO rfl ?_
  refine x_if_ne (tgt := 10) dX7_flip_4 (by decide) (fun h => False.elim (h rfl)) (fun _ => ?_)
  refine x_bipush (y := -3) dX7_flip_7 rfl ?_
  exact x_ireturn_eq dX7_flip_9 rfl rfl
theorem c_mgenerator0 {X : Ev} {M : Hp} {m t d r n tn : Nat} {me ri lt : Int32} (hO : M[138]? = some (.inr (6, [.int (0), .int (nI m), .int (nI t), .int (nI d), .int (nI r), .int (nI n), .int (nI (2 ^ m - 1)), .ref (139), .ref (140), .ref (141), .ref (142), .ref (143), .ref (144), .ref (145), .ref (146), .ref (147), .int (nI tn), .int (me), .int (ri), .int (lt), .ref (148), .ref (149), .ref (150), .ref (151), .ref (152), .ref (153), .ref (154)]))) {z0 : Int32} : Cl X 9 jX7_generator [.ref (138), .int (z0)] M (some (.int (-3))) M := by
  refine Cl.of (ls := [some (.ref (138)), some (.int (z0))]) (by decide) rfl (Nat.le_of_ble_eq_true rfl) ?_
  refine x_aload_n dX7_generator_0 rfl rfl ?_
  refine x_getf (ci := 6) (kf := 0) dX7_generator_1 rfl uX7 (by decide) fl_RX7_100 hO rfl ?_
  refine x_if_ne (tgt := 10) dX7_generator_4 (by decide) (fun h => False.elim (h rfl)) (fun _ => ?_)
  refine x_bipush (y := -3) dX7_generator_7 rfl ?_
  exact x_ireturn_eq dX7_generator_9 rfl rfl
theorem c_mget0 {X : Ev} {M : Hp} {m t d r n tn : Nat} {me ri lt : Int32} (hO : M[138]? = some (.inr (6, [.int (0), .int (nI m), .int (nI t), .int (nI d), .int (nI r), .int (nI n), .int (nI (2 ^ m - 1)), .ref (139), .ref (140), .ref (141), .ref (142), .ref (143), .ref (144), .ref (145), .ref (146), .ref (147), .int (nI tn), .int (me), .int (ri), .int (lt), .ref (148), .ref (149), .ref (150), .ref (151), .ref (152), .ref (153), .ref (154)]))) {z0 : Int32} : Cl X 9 jX7_get [.ref (138), .int (z0)] M (some (.int (-3))) M := by
  refine Cl.of (ls := [some (.ref (138)), some (.int (z0))]) (by decide) rfl (Nat.le_of_ble_eq_true rfl) ?_
  refine x_aload_n dX7_get_0 rfl rfl ?_
  refine x_getf (ci := 6) (kf := 0) dX7_get_1 rfl uX7 (by decide) fl_RX7_100 hO rfl ?_
  refine x_if_ne (tgt := 10) dX7_get_4 (by decide) (fun h => False.elim (h rfl)) (fun _ => ?_)
  refine x_bipush (y := -3) dX7_get_7 rfl ?_
  exact x_ireturn_eq dX7_get_9 rfl rfl
theorem c_minverse0 {X : Ev} {M : Hp} {m t d r n tn : Nat} {me ri lt : Int32} (hO : M[138]? = some (.inr (6, [.int (0), .int (nI m), .int (nI t), .int (nI d), .int (nI r), .int (nI n), .int (nI (2 ^ m - 1)), .ref (139), .ref (140), .ref (141), .ref (142), .ref (143), .ref (144), .ref (145), .ref (146), .ref (147), .int (nI tn), .int (me), .int (ri), .int (lt), .ref (148), .ref (149), .ref (150), .ref (151), .ref (152), .ref (153), .ref (154)]))) {z0 : Int32} : Cl X 9 jX7_inverse [.ref (138), .int (z0)] M (some (.int (-3))) M := by
  refine Cl.of (ls := [some (.ref (138)), some (.int (z0))]) (by decide) rfl (Nat.le_of_ble_eq_true rfl) ?_
  refine x_aload_n dX7_inverse_0 rfl rfl ?_
  refine x_getf (ci := 6) (kf := 0) dX7_inverse_1 rfl uX7 (by decide) fl_RX7_100 hO rfl ?_
  refine x_if_ne (tgt := 10) dX7_inverse_4 (by decide) (fun h => False.elim (h rfl)) (fun _ => ?_)
  refine x_bipush (y := -3) dX7_inverse_7 rfl ?_
  exact x_ireturn_eq dX7_inverse_9 rfl rfl
theorem c_mlog0 {X : Ev} {M : Hp} {m t d r n tn : Nat} {me ri lt : Int32} (hO : M[138]? = some (.inr (6, [.int (0), .int (nI m), .int (nI t), .int (nI d), .int (nI r), .int (nI n), .int (nI (2 ^ m - 1)), .ref (139), .ref (140), .ref (141), .ref (142), .ref (143), .ref (144), .ref (145), .ref (146), .ref (147), .int (nI tn), .int (me), .int (ri), .int (lt), .ref (148), .ref (149), .ref (150), .ref (151), .ref (152), .ref (153), .ref (154)]))) {z0 : Int32} : Cl X 9 jX7_log [.ref (138), .int (z0)] M (some (.int (-3))) M := by
  refine Cl.of (ls := [some (.ref (138)), some (.int (z0))]) (by decide) rfl (Nat.le_of_ble_eq_true rfl) ?_
  refine x_aload_n dX7_log_0 rfl rfl ?_
  refine x_getf (ci := 6) (kf := 0) dX7_log_1 rfl uX7 (by decide) fl_RX7_100 hO rfl ?_
  refine x_if_ne (tgt := 10) dX7_log_4 (by decide) (fun h => False.elim (h rfl)) (fun _ => ?_)
  refine x_bipush (y := -3) dX7_log_7 rfl ?_
  exact x_ireturn_eq dX7_log_9 rfl rfl
theorem c_mmark0 {X : Ev} {M : Hp} {m t d r n tn : Nat} {me ri lt : Int32} (hO : M[138]? = some (.inr (6, [.int (0), .int (nI m), .int (nI t), .int (nI d), .int (nI r), .int (nI n), .int (nI (2 ^ m - 1)), .ref (139), .ref (140), .ref (141), .ref (142), .ref (143), .ref (144), .ref (145), .ref (146), .ref (147), .int (nI tn), .int (me), .int (ri), .int (lt), .ref (148), .ref (149), .ref (150), .ref (151), .ref (152), .ref (153), .ref (154)]))) {z0 : Int32} {z1 : Int32} {z2 : Int32} : Cl X 9 jX7_mark [.ref (138), .int (z0), .int (z1), .int (z2)] M (some (.int (-3))) M := by
  refine Cl.of (ls := [some (.ref (138)), some (.int (z0)), some (.int (z1)), some (.int (z2))]) (by decide) rfl (Nat.le_of_ble_eq_true rfl) ?_
  refine x_aload_n dX7_mark_0 rfl rfl ?_
  refine x_getf (ci := 6) (kf := 0) dX7_mark_1 rfl uX7 (by decide) fl_RX7_100 hO rfl ?_
  refine x_if_ne (tgt := 10) dX7_mark_4 (by decide) (fun h => False.elim (h rfl)) (fun _ => ?_)
  refine x_bipush (y := -3) dX7_mark_7 rfl ?_
  exact x_ireturn_eq dX7_mark_9 rfl rfl
theorem c_mminimal0 {X : Ev} {M : Hp} {m t d r n tn : Nat} {me ri lt : Int32} (hO : M[138]? = some (.inr (6, [.int (0), .int (nI m), .int (nI t), .int (nI d), .int (nI r), .int (nI n), .int (nI (2 ^ m - 1)), .ref (139), .ref (140), .ref (141), .ref (142), .ref (143), .ref (144), .ref (145), .ref (146), .ref (147), .int (nI tn), .int (me), .int (ri), .int (lt), .ref (148), .ref (149), .ref (150), .ref (151), .ref (152), .ref (153), .ref (154)]))) {z0 : Int32} : Cl X 9 jX7_minimal [.ref (138), .int (z0)] M (some (.int (-3))) M := by
  refine Cl.of (ls := [some (.ref (138)), some (.int (z0))]) (by decide) rfl (Nat.le_of_ble_eq_true rfl) ?_
  refine x_aload_n dX7_minimal_0 rfl rfl ?_
  refine x_getf (ci := 6) (kf := 0) dX7_minimal_1 rfl uX7 (by decide) fl_RX7_100 hO rfl ?_
  refine x_if_ne (tgt := 10) dX7_minimal_4 (by decide) (fun h => False.elim (h rfl)) (fun _ => ?_)
  refine x_bipush (y := -3) dX7_minimal_7 rfl ?_
  exact x_ireturn_eq dX7_minimal_9 rfl rfl
theorem c_mpower0 {X : Ev} {M : Hp} {m t d r n tn : Nat} {me ri lt : Int32} (hO : M[138]? = some (.inr (6, [.int (0), .int (nI m), .int (nI t), .int (nI d), .int (nI r), .int (nI n), .int (nI (2 ^ m - 1)), .ref (139), .ref (140), .ref (141), .ref (142), .ref (143), .ref (144), .ref (145), .ref (146), .ref (147), .int (nI tn), .int (me), .int (ri), .int (lt), .ref (148), .ref (149), .ref (150), .ref (151), .ref (152), .ref (153), .ref (154)]))) {z0 : Int32} : Cl X 9 jX7_power [.ref (138), .int (z0)] M (some (.int (-3))) M := by
  refine Cl.of (ls := [some (.ref (138)), some (.int (z0))]) (by decide) rfl (Nat.le_of_ble_eq_true rfl) ?_
  refine x_aload_n dX7_power_0 rfl rfl ?_
  refine x_getf (ci := 6) (kf := 0) dX7_power_1 rfl uX7 (by decide) fl_RX7_100 hO rfl ?_
  refine x_if_ne (tgt := 10) dX7_power_4 (by decide) (fun h => False.elim (h rfl)) (fun _ => ?_)
  refine x_bipush (y := -3) dX7_power_7 rfl ?_
  exact x_ireturn_eq dX7_power_9 rfl rfl
theorem c_mput0 {X : Ev} {M : Hp} {m t d r n tn : Nat} {me ri lt : Int32} (hO : M[138]? = some (.inr (6, [.int (0), .int (nI m), .int (nI t), .int (nI d), .int (nI r), .int (nI n), .int (nI (2 ^ m - 1)), .ref (139), .ref (140), .ref (141), .ref (142), .ref (143), .ref (144), .ref (145), .ref (146), .ref (147), .int (nI tn), .int (me), .int (ri), .int (lt), .ref (148), .ref (149), .ref (150), .ref (151), .ref (152), .ref (153), .ref (154)]))) {z0 : Int32} {z1 : Int32} : Cl X 9 jX7_put [.ref (138), .int (z0), .int (z1)] M (some (.int (-3))) M := by
  refine Cl.of (ls := [some (.ref (138)), some (.int (z0)), some (.int (z1)), none]) (by decide) rfl (Nat.le_of_ble_eq_true rfl) ?_
  refine x_aload_n dX7_put_0 rfl rfl ?_
  refine x_getf (ci := 6) (kf := 0) dX7_put_1 rfl uX7 (by decide) fl_RX7_100 hO rfl ?_
  refine x_if_ne (tgt := 10) dX7_put_4 (by decide) (fun h => False.elim (h rfl)) (fun _ => ?_)
  refine x_bipush (y := -3) dX7_put_7 rfl ?_
  exact x_ireturn_eq dX7_put_9 rfl rfl
theorem c_mread0 {X : Ev} {M : Hp} {m t d r n tn : Nat} {me ri lt : Int32} (hO : M[138]? = some (.inr (6, [.int (0), .int (nI m), .int (nI t), .int (nI d), .int (nI r), .int (nI n), .int (nI (2 ^ m - 1)), .ref (139), .ref (140), .ref (141), .ref (142), .ref (143), .ref (144), .ref (145), .ref (146), .ref (147), .int (nI tn), .int (me), .int (ri), .int (lt), .ref (148), .ref (149), .ref (150), .ref (151), .ref (152), .ref (153), .ref (154)]))) {z0 : Int32} : Cl X 9 jX7_read [.ref (138), .int (z0)] M (some (.int (-3))) M := by
  refine Cl.of (ls := [some (.ref (138)), some (.int (z0)), none, none]) (by decide) rfl (Nat.le_of_ble_eq_true rfl) ?_
  refine x_aload_n dX7_read_0 rfl rfl ?_
  refine x_getf (ci := 6) (kf := 0) dX7_read_1 rfl uX7 (by decide) fl_RX7_100 hO rfl ?_
  refine x_if_ne (tgt := 10) dX7_read_4 (by decide) (fun h => False.elim (h rfl)) (fun _ => ?_)
  refine x_bipush (y := -3) dX7_read_7 rfl ?_
  exact x_ireturn_eq dX7_read_9 rfl rfl
theorem c_mrefresh0 {X : Ev} {M : Hp} {m t d r n tn : Nat} {me ri lt : Int32} (hO : M[138]? = some (.inr (6, [.int (0), .int (nI m), .int (nI t), .int (nI d), .int (nI r), .int (nI n), .int (nI (2 ^ m - 1)), .ref (139), .ref (140), .ref (141), .ref (142), .ref (143), .ref (144), .ref (145), .ref (146), .ref (147), .int (nI tn), .int (me), .int (ri), .int (lt), .ref (148), .ref (149), .ref (150), .ref (151), .ref (152), .ref (153), .ref (154)]))) {z0 : Int32} : Cl X 9 jX7_refresh [.ref (138), .int (z0)] M (some (.int (-3))) M := by
  refine Cl.of (ls := [some (.ref (138)), some (.int (z0)), none, none, none, none]) (by decide) rfl (Nat.le_of_ble_eq_true rfl) ?_
  refine x_aload_n dX7_refresh_0 rfl rfl ?_
  refine x_getf (ci := 6) (kf := 0) dX7_refresh_1 rfl uX7 (by decide) fl_RX7_100 hO rfl ?_
  refine x_if_ne (tgt := 10) dX7_refresh_4 (by decide) (fun h => False.elim (h rfl)) (fun _ => ?_)
  refine x_bipush (y := -3) dX7_refresh_7 rfl ?_
  exact x_ireturn_eq dX7_refresh_9 rfl rfl
theorem c_mstick0 {X : Ev} {M : Hp} {m t d r n tn : Nat} {me ri lt : Int32} (hO : M[138]? = some (.inr (6, [.int (0), .int (nI m), .int (nI t), .int (nI d), .int (nI r), .int (nI n), .int (nI (2 ^ m - 1)), .ref (139), .ref (140), .ref (141), .ref (142), .ref (143), .ref (144), .ref (145), .ref (146), .ref (147), .int (nI tn), .int (me), .int (ri), .int (lt), .ref (148), .ref (149), .ref (150), .ref (151), .ref (152), .ref (153), .ref (154)]))) {z0 : Int32} {z1 : Int32} {z2 : Int32} : Cl X 9 jX7_stick [.ref (138), .int (z0), .int (z1), .int (z2)] M (some (.int (-3))) M := by
  refine Cl.of (ls := [some (.ref (138)), some (.int (z0)), some (.int (z1)), some (.int (z2)), none]) (by decide) rfl (Nat.le_of_ble_eq_true rfl) ?_
  refine x_aload_n dX7_stick_0 rfl rfl ?_
  refine x_getf (ci := 6) (kf := 0) dX7_stick_1 rfl uX7 (by decide) fl_RX7_100 hO rfl ?_
  refine x_if_ne (tgt := 10) dX7_stick_4 (by decide) (fun h => False.elim (h rfl)) (fun _ => ?_)
  refine x_bipush (y := -3) dX7_stick_7 rfl ?_
  exact x_ireturn_eq dX7_stick_9 rfl rfl
theorem c_msyndrome0 {X : Ev} {M : Hp} {m t d r n tn : Nat} {me ri lt : Int32} (hO : M[138]? = some (.inr (6, [.int (0), .int (nI m), .int (nI t), .int (nI d), .int (nI r), .int (nI n), .int (nI (2 ^ m - 1)), .ref (139), .ref (140), .ref (141), .ref (142), .ref (143), .ref (144), .ref (145), .ref (146), .ref (147), .int (nI tn), .int (me), .int (ri), .int (lt), .ref (148), .ref (149), .ref (150), .ref (151), .ref (152), .ref (153), .ref (154)]))) {z0 : Int32} {z1 : Int32} : Cl X 9 jX7_syndrome [.ref (138), .int (z0), .int (z1)] M (some (.int (-3))) M := by
  refine Cl.of (ls := [some (.ref (138)), some (.int (z0)), some (.int (z1)), none]) (by decide) rfl (Nat.le_of_ble_eq_true rfl) ?_
  refine x_aload_n dX7_syndrome_0 rfl rfl ?_
  refine x_getf (ci := 6) (kf := 0) dX7_syndrome_1 rfl uX7 (by decide) fl_RX7_100 hO rfl ?_
  refine x_if_ne (tgt := 10) dX7_syndrome_4 (by decide) (fun h => False.elim (h rfl)) (fun _ => ?_)
  refine x_bipush (y := -3) dX7_syndrome_7 rfl ?_
  exact x_ireturn_eq dX7_syndrome_9 rfl rfl
theorem c_mtail0 {X : Ev} {M : Hp} {m t d r n tn : Nat} {me ri lt : Int32} (hO : M[138]? = some (.inr (6, [.int (0), .int (nI m), .int (nI t), .int (nI d), .int (nI r), .int (nI n), .int (nI (2 ^ m - 1)), .ref (139), .ref (140), .ref (141), .ref (142), .ref (143), .ref (144), .ref (145), .ref (146), .ref (147), .int (nI tn), .int (me), .int (ri), .int (lt), .ref (148), .ref (149), .ref (150), .ref (151), .ref (152), .ref (153), .ref (154)]))) {z0 : Int32} : Cl X 9 jX7_tail [.ref (138), .int (z0)] M (some (.int (-3))) M := by
  refine Cl.of (ls := [some (.ref (138)), some (.int (z0))]) (by decide) rfl (Nat.le_of_ble_eq_true rfl) ?_
  refine x_aload_n dX7_tail_0 rfl rfl ?_
  refine x_getf (ci := 6) (kf := 0) dX7_tail_1 rfl uX7 (by decide) fl_RX7_100 hO rfl ?_
  refine x_if_ne (tgt := 10) dX7_tail_4 (by decide) (fun h => False.elim (h rfl)) (fun _ => ?_)
  refine x_bipush (y := -3) dX7_tail_7 rfl ?_
  exact x_ireturn_eq dX7_tail_9 rfl rfl
theorem c_mtimes0 {X : Ev} {M : Hp} {m t d r n tn : Nat} {me ri lt : Int32} (hO : M[138]? = some (.inr (6, [.int (0), .int (nI m), .int (nI t), .int (nI d), .int (nI r), .int (nI n), .int (nI (2 ^ m - 1)), .ref (139), .ref (140), .ref (141), .ref (142), .ref (143), .ref (144), .ref (145), .ref (146), .ref (147), .int (nI tn), .int (me), .int (ri), .int (lt), .ref (148), .ref (149), .ref (150), .ref (151), .ref (152), .ref (153), .ref (154)]))) {z0 : Int32} {z1 : Int32} : Cl X 9 jX7_times [.ref (138), .int (z0), .int (z1)] M (some (.int (-3))) M := by
  refine Cl.of (ls := [some (.ref (138)), some (.int (z0)), some (.int (z1))]) (by decide) rfl (Nat.le_of_ble_eq_true rfl) ?_
  refine x_aload_n dX7_times_0 rfl rfl ?_
  refine x_getf (ci := 6) (kf := 0) dX7_times_1 rfl uX7 (by decide) fl_RX7_100 hO rfl ?_
  refine x_if_ne (tgt := 10) dX7_times_4 (by decide) (fun h => False.elim (h rfl)) (fun _ => ?_)
  refine x_bipush (y := -3) dX7_times_7 rfl ?_
  exact x_ireturn_eq dX7_times_9 rfl rfl
theorem c_mtold0 {X : Ev} {M : Hp} {m t d r n tn : Nat} {me ri lt : Int32} (hO : M[138]? = some (.inr (6, [.int (0), .int (nI m), .int (nI t), .int (nI d), .int (nI r), .int (nI n), .int (nI (2 ^ m - 1)), .ref (139), .ref (140), .ref (141), .ref (142), .ref (143), .ref (144), .ref (145), .ref (146), .ref (147), .int (nI tn), .int (me), .int (ri), .int (lt), .ref (148), .ref (149), .ref (150), .ref (151), .ref (152), .ref (153), .ref (154)]))) {z0 : Int32} {z1 : Int32} : Cl X 9 jX7_told [.ref (138), .int (z0), .int (z1)] M (some (.int (-3))) M := by
  refine Cl.of (ls := [some (.ref (138)), some (.int (z0)), some (.int (z1)), none, none, none]) (by decide) rfl (Nat.le_of_ble_eq_true rfl) ?_
  refine x_aload_n dX7_told_0 rfl rfl ?_
  refine x_getf (ci := 6) (kf := 0) dX7_told_1 rfl uX7 (by decide) fl_RX7_100 hO rfl ?_
  refine x_if_ne (tgt := 10) dX7_told_4 (by decide) (fun h => False.elim (h rfl)) (fun _ => ?_)
  refine x_bipush (y := -3) dX7_told_7 rfl ?_
  exact x_ireturn_eq dX7_told_9 rfl rfl
theorem c_mwrite0 {X : Ev} {M : Hp} {m t d r n tn : Nat} {me ri lt : Int32} (hO : M[138]? = some (.inr (6, [.int (0), .int (nI m), .int (nI t), .int (nI d), .int (nI r), .int (nI n), .int (nI (2 ^ m - 1)), .ref (139), .ref (140), .ref (141), .ref (142), .ref (143), .ref (144), .ref (145), .ref (146), .ref (147), .int (nI tn), .int (me), .int (ri), .int (lt), .ref (148), .ref (149), .ref (150), .ref (151), .ref (152), .ref (153), .ref (154)]))) {z0 : Int32} : Cl X 9 jX7_write [.ref (138), .int (z0)] M (some (.int (-3))) M := by
  refine Cl.of (ls := [some (.ref (138)), some (.int (z0))]) (by decide) rfl (Nat.le_of_ble_eq_true rfl) ?_
  refine x_aload_n dX7_write_0 rfl rfl ?_
  refine x_getf (ci := 6) (kf := 0) dX7_write_1 rfl uX7 (by decide) fl_RX7_100 hO rfl ?_
  refine x_if_ne (tgt := 10) dX7_write_4 (by decide) (fun h => False.elim (h rfl)) (fun _ => ?_)
  refine x_bipush (y := -3) dX7_write_7 rfl ?_
  exact x_ireturn_eq dX7_write_9 rfl rfl
theorem wi_s {z : Int32} {t : Nat} (ht : t ≤ 8) : wi z (nI 1) (nI (2 * t)) = decide (1 ≤ z.toInt ∧ z.toInt ≤ 2 * (t : Int)) := by
  unfold wi
  rw [nI_toInt (n := 2 * t) (by omega), nI_toInt (n := 1) (by decide)]
  exact decide_eq_decide.mpr (by omega)
theorem c_mbitB {X : Ev} {M : Hp} {m t d r n tn : Nat} {me ri lt : Int32} (hO : M[138]? = some (.inr (6, [.int (1), .int (nI m), .int (nI t), .int (nI d), .int (nI r), .int (nI n), .int (nI (2 ^ m - 1)), .ref (139), .ref (140), .ref (141), .ref (142), .ref (143), .ref (144), .ref (145), .ref (146), .ref (147), .int (nI tn), .int (me), .int (ri), .int (lt), .ref (148), .ref (149), .ref (150), .ref (151), .ref (152), .ref (153), .ref (154)]))) (hn31 : n < 2 ^ 31) {z0 : Int32} {z1 : Int32} (hbad : (inl_ z0 16 && inl_ z1 n) = false) : Cl X 9 jX7_bit [.ref (138), .int (z0), .int (z1)] M (some (.int (-2))) M := by
  refine Cl.of (ls := [some (.ref (138)), some (.int (z0)), some (.int (z1))]) (by decide) rfl (Nat.le_of_ble_eq_true rfl) ?_
  refine x_aload_n dX7_bit_0 rfl rfl ?_
  refine x_getf (ci := 6) (kf := 0) dX7_bit_1 rfl uX7 (by decide) fl_RX7_100 hO rfl ?_
  refine x_if_ne (tgt := 10) dX7_bit_4 (by decide) (fun _ => ?_) (fun h => False.elim (absurd h (by decide)))
  refine x_aload_n dX7_bit_10 rfl rfl ?_
  refine x_iload_n dX7_bit_11 rfl rfl ?_
  refine x_iload_n dX7_bit_12 rfl rfl ?_
  refine x_callV (ci := 6) (as := [.int (z0), .int (z1)]) dX7_bit_13 mk_X7_isBit in_X7_isBit se_X7_isBit ml_RX7_155 rfl hO (by decide) rfl rfl (Nat.le_of_ble_eq_true rfl) (c_isBit hO hn31) ?_
  refine x_if_eq (tgt := 42) dX7_bit_16 (by decide) (fun h16 => ?_) (fun h16 => ?_)
  · refine x_bipush (y := -2) dX7_bit_42 rfl ?_
    exact x_ireturn_eq dX7_bit_44 rfl rfl
  · exact absurd hbad (by rw [ite1 h16]; decide)
theorem c_mflipB {X : Ev} {M : Hp} {m t d r n tn : Nat} {me ri lt : Int32} (hO : M[138]? = some (.inr (6, [.int (1), .int (nI m), .int (nI t), .int (nI d), .int (nI r), .int (nI n), .int (nI (2 ^ m - 1)), .ref (139), .ref (140), .ref (141), .ref (142), .ref (143), .ref (144), .ref (145), .ref (146), .ref (147), .int (nI tn), .int (me), .int (ri), .int (lt), .ref (148), .ref (149), .ref (150), .ref (151), .ref (152), .ref (153), .ref (154)]))) (hn31 : n < 2 ^ 31) {z0 : Int32} {z1 : Int32} (hbad : (inl_ z0 16 && inl_ z1 n) = false) : Cl X 9 jX7_flip [.ref (138), .int (z0), .int (z1)] M (some (.int (-2))) M := by
  refine Cl.of (ls := [some (.ref (138)), some (.int (z0)), some (.int (z1)), none]) (by decide) rfl (Nat.le_of_ble_eq_true rfl) ?_
  refine x_aload_n dX7_flip_0 rfl rfl ?_
  refine x_getf (ci := 6) (kf := 0) dX7_flip_1 rfl uX7 (by decide) fl_RX7_100 hO rfl ?_
  refine x_if_ne (tgt := 10) dX7_flip_4 (by decide) (fun _ => ?_) (fun h => False.elim (absurd h (by decide)))
  refine x_aload_n dX7_flip_10 rfl rfl ?_
  refine x_iload_n dX7_flip_11 rfl rfl ?_
  refine x_iload_n dX7_flip_12 rfl rfl ?_
  refine x_callV (ci := 6) (as := [.int (z0), .int (z1)]) dX7_flip_13 mk_X7_isBit in_X7_isBit se_X7_isBit ml_RX7_155 rfl hO (by decide) rfl rfl (Nat.le_of_ble_eq_true rfl) (c_isBit hO hn31) ?_
  refine x_if_ne (tgt := 22) dX7_flip_16 (by decide) (fun h16 => ?_) (fun h16 => ?_)
  · exact absurd hbad (by rw [ite1 h16]; decide)
  · refine x_bipush (y := -2) dX7_flip_19 rfl ?_
    exact x_ireturn_eq dX7_flip_21 rfl rfl
theorem c_mmarkB {X : Ev} {M : Hp} {m t d r n tn : Nat} {me ri lt : Int32} (hO : M[138]? = some (.inr (6, [.int (1), .int (nI m), .int (nI t), .int (nI d), .int (nI r), .int (nI n), .int (nI (2 ^ m - 1)), .ref (139), .ref (140), .ref (141), .ref (142), .ref (143), .ref (144), .ref (145), .ref (146), .ref (147), .int (nI tn), .int (me), .int (ri), .int (lt), .ref (148), .ref (149), .ref (150), .ref (151), .ref (152), .ref (153), .ref (154)]))) (hn31 : n < 2 ^ 31) {z0 : Int32} {z1 : Int32} {z2 : Int32} (hbad : (inl_ z0 16 && inl_ z1 n) = false) : Cl X 9 jX7_mark [.ref (138), .int (z0), .int (z1), .int (z2)] M (some (.int (-2))) M := by
  refine Cl.of (ls := [some (.ref (138)), some (.int (z0)), some (.int (z1)), some (.int (z2))]) (by decide) rfl (Nat.le_of_ble_eq_true rfl) ?_
  refine x_aload_n dX7_mark_0 rfl rfl ?_
  refine x_getf (ci := 6) (kf := 0) dX7_mark_1 rfl uX7 (by decide) fl_RX7_100 hO rfl ?_
  refine x_if_ne (tgt := 10) dX7_mark_4 (by decide) (fun _ => ?_) (fun h => False.elim (absurd h (by decide)))
  refine x_aload_n dX7_mark_10 rfl rfl ?_
  refine x_iload_n dX7_mark_11 rfl rfl ?_
  refine x_iload_n dX7_mark_12 rfl rfl ?_
  refine x_callV (ci := 6) (as := [.int (z0), .int (z1)]) dX7_mark_13 mk_X7_isBit in_X7_isBit se_X7_isBit ml_RX7_155 rfl hO (by decide) rfl rfl (Nat.le_of_ble_eq_true rfl) (c_isBit hO hn31) ?_
  refine x_if_ne (tgt := 22) dX7_mark_16 (by decide) (fun h16 => ?_) (fun h16 => ?_)
  · exact absurd hbad (by rw [ite1 h16]; decide)
  · refine x_bipush (y := -2) dX7_mark_19 rfl ?_
    exact x_ireturn_eq dX7_mark_21 rfl rfl
theorem c_mcopyB {X : Ev} {M : Hp} {m t d r n tn : Nat} {me ri lt : Int32} (hO : M[138]? = some (.inr (6, [.int (1), .int (nI m), .int (nI t), .int (nI d), .int (nI r), .int (nI n), .int (nI (2 ^ m - 1)), .ref (139), .ref (140), .ref (141), .ref (142), .ref (143), .ref (144), .ref (145), .ref (146), .ref (147), .int (nI tn), .int (me), .int (ri), .int (lt), .ref (148), .ref (149), .ref (150), .ref (151), .ref (152), .ref (153), .ref (154)])))  {z0 : Int32} {z1 : Int32} (hbad : (inl_ z0 16 && inl_ z1 16) = false) : Cl X 9 jX7_copy [.ref (138), .int (z0), .int (z1)] M (some (.int (-2))) M := by
  refine Cl.of (ls := [some (.ref (138)), some (.int (z0)), some (.int (z1))]) (by decide) rfl (Nat.le_of_ble_eq_true rfl) ?_
  refine x_aload_n dX7_copy_0 rfl rfl ?_
  refine x_getf (ci := 6) (kf := 0) dX7_copy_1 rfl uX7 (by decide) fl_RX7_100 hO rfl ?_
  refine x_if_ne (tgt := 10) dX7_copy_4 (by decide) (fun _ => ?_) (fun h => False.elim (absurd h (by decide)))
  refine x_iload_n dX7_copy_10 rfl rfl ?_
  refine x_callS (as := [.int (z0)]) dX7_copy_11 mk_X7_isPage st_X7_isPage ml_RX7_142 (by decide) rfl rfl (Nat.le_of_ble_eq_true rfl) (c_isPage) ?_
  refine x_if_eq (tgt := 24) dX7_copy_14 (by decide) (fun h14 => ?_) (fun h14 => ?_)
  · refine x_bipush (y := -2) dX7_copy_24 rfl ?_
    exact x_ireturn_eq dX7_copy_26 rfl rfl
  · refine x_iload_n dX7_copy_17 rfl rfl ?_
    refine x_callS (as := [.int (z1)]) dX7_copy_18 mk_X7_isPage st_X7_isPage ml_RX7_142 (by decide) rfl rfl (Nat.le_of_ble_eq_true rfl) (c_isPage) ?_
    refine x_if_ne (tgt := 27) dX7_copy_21 (by decide) (fun h21 => ?_) (fun h21 => ?_)
    · exact absurd hbad (by rw [ite1 h14, ite1 h21]; decide)
    · refine x_bipush (y := -2) dX7_copy_24 rfl ?_
      exact x_ireturn_eq dX7_copy_26 rfl rfl
theorem c_meraseB {X : Ev} {M : Hp} {m t d r n tn : Nat} {me ri lt : Int32} (hO : M[138]? = some (.inr (6, [.int (1), .int (nI m), .int (nI t), .int (nI d), .int (nI r), .int (nI n), .int (nI (2 ^ m - 1)), .ref (139), .ref (140), .ref (141), .ref (142), .ref (143), .ref (144), .ref (145), .ref (146), .ref (147), .int (nI tn), .int (me), .int (ri), .int (lt), .ref (148), .ref (149), .ref (150), .ref (151), .ref (152), .ref (153), .ref (154)])))  {z0 : Int32} (hbad : inl_ z0 16 = false) : Cl X 9 jX7_erase [.ref (138), .int (z0)] M (some (.int (-2))) M := by
  refine Cl.of (ls := [some (.ref (138)), some (.int (z0))]) (by decide) rfl (Nat.le_of_ble_eq_true rfl) ?_
  refine x_aload_n dX7_erase_0 rfl rfl ?_
  refine x_getf (ci := 6) (kf := 0) dX7_erase_1 rfl uX7 (by decide) fl_RX7_100 hO rfl ?_
  refine x_if_ne (tgt := 10) dX7_erase_4 (by decide) (fun _ => ?_) (fun h => False.elim (absurd h (by decide)))
  refine x_iload_n dX7_erase_10 rfl rfl ?_
  refine x_callS (as := [.int (z0)]) dX7_erase_11 mk_X7_isPage st_X7_isPage ml_RX7_142 (by decide) rfl rfl (Nat.le_of_ble_eq_true rfl) (c_isPage) ?_
  refine x_if_ne (tgt := 20) dX7_erase_14 (by decide) (fun h14 => ?_) (fun h14 => ?_)
  · exact absurd hbad (by rw [ite1 h14]; decide)
  · refine x_bipush (y := -2) dX7_erase_17 rfl ?_
    exact x_ireturn_eq dX7_erase_19 rfl rfl
theorem c_mreadB {X : Ev} {M : Hp} {m t d r n tn : Nat} {me ri lt : Int32} (hO : M[138]? = some (.inr (6, [.int (1), .int (nI m), .int (nI t), .int (nI d), .int (nI r), .int (nI n), .int (nI (2 ^ m - 1)), .ref (139), .ref (140), .ref (141), .ref (142), .ref (143), .ref (144), .ref (145), .ref (146), .ref (147), .int (nI tn), .int (me), .int (ri), .int (lt), .ref (148), .ref (149), .ref (150), .ref (151), .ref (152), .ref (153), .ref (154)])))  {z0 : Int32} (hbad : inl_ z0 16 = false) : Cl X 9 jX7_read [.ref (138), .int (z0)] M (some (.int (-2))) M := by
  refine Cl.of (ls := [some (.ref (138)), some (.int (z0)), none, none]) (by decide) rfl (Nat.le_of_ble_eq_true rfl) ?_
  refine x_aload_n dX7_read_0 rfl rfl ?_
  refine x_getf (ci := 6) (kf := 0) dX7_read_1 rfl uX7 (by decide) fl_RX7_100 hO rfl ?_
  refine x_if_ne (tgt := 10) dX7_read_4 (by decide) (fun _ => ?_) (fun h => False.elim (absurd h (by decide)))
  refine x_iload_n dX7_read_10 rfl rfl ?_
  refine x_callS (as := [.int (z0)]) dX7_read_11 mk_X7_isPage st_X7_isPage ml_RX7_142 (by decide) rfl rfl (Nat.le_of_ble_eq_true rfl) (c_isPage) ?_
  refine x_if_ne (tgt := 20) dX7_read_14 (by decide) (fun h14 => ?_) (fun h14 => ?_)
  · exact absurd hbad (by rw [ite1 h14]; decide)
  · refine x_bipush (y := -2) dX7_read_17 rfl ?_
    exact x_ireturn_eq dX7_read_19 rfl rfl
theorem c_mwriteB {X : Ev} {M : Hp} {m t d r n tn : Nat} {me ri lt : Int32} (hO : M[138]? = some (.inr (6, [.int (1), .int (nI m), .int (nI t), .int (nI d), .int (nI r), .int (nI n), .int (nI (2 ^ m - 1)), .ref (139), .ref (140), .ref (141), .ref (142), .ref (143), .ref (144), .ref (145), .ref (146), .ref (147), .int (nI tn), .int (me), .int (ri), .int (lt), .ref (148), .ref (149), .ref (150), .ref (151), .ref (152), .ref (153), .ref (154)])))  {z0 : Int32} (hbad : inl_ z0 16 = false) : Cl X 9 jX7_write [.ref (138), .int (z0)] M (some (.int (-2))) M := by
  refine Cl.of (ls := [some (.ref (138)), some (.int (z0))]) (by decide) rfl (Nat.le_of_ble_eq_true rfl) ?_
  refine x_aload_n dX7_write_0 rfl rfl ?_
  refine x_getf (ci := 6) (kf := 0) dX7_write_1 rfl uX7 (by decide) fl_RX7_100 hO rfl ?_
  refine x_if_ne (tgt := 10) dX7_write_4 (by decide) (fun _ => ?_) (fun h => False.elim (absurd h (by decide)))
  refine x_iload_n dX7_write_10 rfl rfl ?_
  refine x_callS (as := [.int (z0)]) dX7_write_11 mk_X7_isPage st_X7_isPage ml_RX7_142 (by decide) rfl rfl (Nat.le_of_ble_eq_true rfl) (c_isPage) ?_
  refine x_if_ne (tgt := 20) dX7_write_14 (by decide) (fun h14 => ?_) (fun h14 => ?_)
  · exact absurd hbad (by rw [ite1 h14]; decide)
  · refine x_bipush (y := -2) dX7_write_17 rfl ?_
    exact x_ireturn_eq dX7_write_19 rfl rfl
theorem c_mfillB {X : Ev} {M : Hp} {m t d r n tn : Nat} {me ri lt : Int32} (hO : M[138]? = some (.inr (6, [.int (1), .int (nI m), .int (nI t), .int (nI d), .int (nI r), .int (nI n), .int (nI (2 ^ m - 1)), .ref (139), .ref (140), .ref (141), .ref (142), .ref (143), .ref (144), .ref (145), .ref (146), .ref (147), .int (nI tn), .int (me), .int (ri), .int (lt), .ref (148), .ref (149), .ref (150), .ref (151), .ref (152), .ref (153), .ref (154)]))) (hn31 : d < 2 ^ 31) {z0 : Int32} {z1 : Int64} (hbad : inl_ z0 d = false) : Cl X 9 jX7_fill [.ref (138), .int (z0), .long (z1)] M (some (.int (-2))) M := by
  refine Cl.of (ls := [some (.ref (138)), some (.int (z0)), some (.long (z1)), none, none, none]) (by decide) rfl (Nat.le_of_ble_eq_true rfl) ?_
  refine x_aload_n dX7_fill_0 rfl rfl ?_
  refine x_getf (ci := 6) (kf := 0) dX7_fill_1 rfl uX7 (by decide) fl_RX7_100 hO rfl ?_
  refine x_if_ne (tgt := 10) dX7_fill_4 (by decide) (fun _ => ?_) (fun h => False.elim (absurd h (by decide)))
  refine x_iload_n dX7_fill_10 rfl rfl ?_
  refine x_iconst (y := nI 0) dX7_fill_11 rfl ?_
  refine x_aload_n dX7_fill_12 rfl rfl ?_
  refine x_getf (ci := 6) (kf := 3) dX7_fill_13 rfl uX7 (by decide) fl_RX7_107 hO rfl ?_
  refine x_iconst (y := nI 1) dX7_fill_16 rfl ?_
  refine x_isub dX7_fill_17 ?_
  refine x_callS (as := [.int (z0), .int (nI 0), .int ((nI d) - (nI 1))]) dX7_fill_18 mk_X7_within st_X7_within ml_RX7_68 (by decide) rfl rfl (Nat.le_of_ble_eq_true rfl) (c_within) ?_
  refine x_casti (y := if inl_ z0 d then 1 else 0) (by rw [wi_l hn31]) ?_
  refine x_if_ne (tgt := 27) dX7_fill_21 (by decide) (fun h21 => ?_) (fun h21 => ?_)
  · exact absurd hbad (by rw [ite1 h21]; decide)
  · refine x_bipush (y := -2) dX7_fill_24 rfl ?_
    exact x_ireturn_eq dX7_fill_26 rfl rfl
theorem c_mgetB {X : Ev} {M : Hp} {m t d r n tn : Nat} {me ri lt : Int32} (hO : M[138]? = some (.inr (6, [.int (1), .int (nI m), .int (nI t), .int (nI d), .int (nI r), .int (nI n), .int (nI (2 ^ m - 1)), .ref (139), .ref (140), .ref (141), .ref (142), .ref (143), .ref (144), .ref (145), .ref (146), .ref (147), .int (nI tn), .int (me), .int (ri), .int (lt), .ref (148), .ref (149), .ref (150), .ref (151), .ref (152), .ref (153), .ref (154)]))) (hn31 : d < 2 ^ 31) {z0 : Int32} (hbad : inl_ z0 d = false) : Cl X 9 jX7_get [.ref (138), .int (z0)] M (some (.int (-2))) M := by
  refine Cl.of (ls := [some (.ref (138)), some (.int (z0))]) (by decide) rfl (Nat.le_of_ble_eq_true rfl) ?_
  refine x_aload_n dX7_get_0 rfl rfl ?_
  refine x_getf (ci := 6) (kf := 0) dX7_get_1 rfl uX7 (by decide) fl_RX7_100 hO rfl ?_
  refine x_if_ne (tgt := 10) dX7_get_4 (by decide) (fun _ => ?_) (fun h => False.elim (absurd h (by decide)))
  refine x_iload_n dX7_get_10 rfl rfl ?_
  refine x_iconst (y := nI 0) dX7_get_11 rfl ?_
  refine x_aload_n dX7_get_12 rfl rfl ?_
  refine x_getf (ci := 6) (kf := 3) dX7_get_13 rfl uX7 (by decide) fl_RX7_107 hO rfl ?_
  refine x_iconst (y := nI 1) dX7_get_16 rfl ?_
  refine x_isub dX7_get_17 ?_
  refine x_callS (as := [.int (z0), .int (nI 0), .int ((nI d) - (nI 1))]) dX7_get_18 mk_X7_within st_X7_within ml_RX7_68 (by decide) rfl rfl (Nat.le_of_ble_eq_true rfl) (c_within) ?_
  refine x_casti (y := if inl_ z0 d then 1 else 0) (by rw [wi_l hn31]) ?_
  refine x_if_eq (tgt := 33) dX7_get_21 (by decide) (fun h21 => ?_) (fun h21 => ?_)
  · refine x_bipush (y := -2) dX7_get_33 rfl ?_
    exact x_ireturn_eq dX7_get_35 rfl rfl
  · exact absurd hbad (by rw [ite1 h21]; decide)
theorem c_mputB {X : Ev} {M : Hp} {m t d r n tn : Nat} {me ri lt : Int32} (hO : M[138]? = some (.inr (6, [.int (1), .int (nI m), .int (nI t), .int (nI d), .int (nI r), .int (nI n), .int (nI (2 ^ m - 1)), .ref (139), .ref (140), .ref (141), .ref (142), .ref (143), .ref (144), .ref (145), .ref (146), .ref (147), .int (nI tn), .int (me), .int (ri), .int (lt), .ref (148), .ref (149), .ref (150), .ref (151), .ref (152), .ref (153), .ref (154)]))) (hn31 : d < 2 ^ 31) {z0 : Int32} {z1 : Int32} (hbad : inl_ z0 d = false) : Cl X 9 jX7_put [.ref (138), .int (z0), .int (z1)] M (some (.int (-2))) M := by
  refine Cl.of (ls := [some (.ref (138)), some (.int (z0)), some (.int (z1)), none]) (by decide) rfl (Nat.le_of_ble_eq_true rfl) ?_
  refine x_aload_n dX7_put_0 rfl rfl ?_
  refine x_getf (ci := 6) (kf := 0) dX7_put_1 rfl uX7 (by decide) fl_RX7_100 hO rfl ?_
  refine x_if_ne (tgt := 10) dX7_put_4 (by decide) (fun _ => ?_) (fun h => False.elim (absurd h (by decide)))
  refine x_iload_n dX7_put_10 rfl rfl ?_
  refine x_iconst (y := nI 0) dX7_put_11 rfl ?_
  refine x_aload_n dX7_put_12 rfl rfl ?_
  refine x_getf (ci := 6) (kf := 3) dX7_put_13 rfl uX7 (by decide) fl_RX7_107 hO rfl ?_
  refine x_iconst (y := nI 1) dX7_put_16 rfl ?_
  refine x_isub dX7_put_17 ?_
  refine x_callS (as := [.int (z0), .int (nI 0), .int ((nI d) - (nI 1))]) dX7_put_18 mk_X7_within st_X7_within ml_RX7_68 (by decide) rfl rfl (Nat.le_of_ble_eq_true rfl) (c_within) ?_
  refine x_casti (y := if inl_ z0 d then 1 else 0) (by rw [wi_l hn31]) ?_
  refine x_if_ne (tgt := 27) dX7_put_21 (by decide) (fun h21 => ?_) (fun h21 => ?_)
  · exact absurd hbad (by rw [ite1 h21]; decide)
  · refine x_bipush (y := -2) dX7_put_24 rfl ?_
    exact x_ireturn_eq dX7_put_26 rfl rfl
theorem c_mtailB {X : Ev} {M : Hp} {m t d r n tn : Nat} {me ri lt : Int32} (hO : M[138]? = some (.inr (6, [.int (1), .int (nI m), .int (nI t), .int (nI d), .int (nI r), .int (nI n), .int (nI (2 ^ m - 1)), .ref (139), .ref (140), .ref (141), .ref (142), .ref (143), .ref (144), .ref (145), .ref (146), .ref (147), .int (nI tn), .int (me), .int (ri), .int (lt), .ref (148), .ref (149), .ref (150), .ref (151), .ref (152), .ref (153), .ref (154)]))) (hn31 : r < 2 ^ 31) {z0 : Int32} (hbad : inl_ z0 r = false) : Cl X 9 jX7_tail [.ref (138), .int (z0)] M (some (.int (-2))) M := by
  refine Cl.of (ls := [some (.ref (138)), some (.int (z0))]) (by decide) rfl (Nat.le_of_ble_eq_true rfl) ?_
  refine x_aload_n dX7_tail_0 rfl rfl ?_
  refine x_getf (ci := 6) (kf := 0) dX7_tail_1 rfl uX7 (by decide) fl_RX7_100 hO rfl ?_
  refine x_if_ne (tgt := 10) dX7_tail_4 (by decide) (fun _ => ?_) (fun h => False.elim (absurd h (by decide)))
  refine x_iload_n dX7_tail_10 rfl rfl ?_
  refine x_iconst (y := nI 0) dX7_tail_11 rfl ?_
  refine x_aload_n dX7_tail_12 rfl rfl ?_
  refine x_getf (ci := 6) (kf := 4) dX7_tail_13 rfl uX7 (by decide) fl_RX7_110 hO rfl ?_
  refine x_iconst (y := nI 1) dX7_tail_16 rfl ?_
  refine x_isub dX7_tail_17 ?_
  refine x_callS (as := [.int (z0), .int (nI 0), .int ((nI r) - (nI 1))]) dX7_tail_18 mk_X7_within st_X7_within ml_RX7_68 (by decide) rfl rfl (Nat.le_of_ble_eq_true rfl) (c_within) ?_
  refine x_casti (y := if inl_ z0 r then 1 else 0) (by rw [wi_l hn31]) ?_
  refine x_if_ne (tgt := 27) dX7_tail_21 (by decide) (fun h21 => ?_) (fun h21 => ?_)
  · exact absurd hbad (by rw [ite1 h21]; decide)
  · refine x_bipush (y := -2) dX7_tail_24 rfl ?_
    exact x_ireturn_eq dX7_tail_26 rfl rfl
theorem c_minverseB {X : Ev} {M : Hp} {m t d r n tn : Nat} {me ri lt : Int32} (hO : M[138]? = some (.inr (6, [.int (1), .int (nI m), .int (nI t), .int (nI d), .int (nI r), .int (nI n), .int (nI (2 ^ m - 1)), .ref (139), .ref (140), .ref (141), .ref (142), .ref (143), .ref (144), .ref (145), .ref (146), .ref (147), .int (nI tn), .int (me), .int (ri), .int (lt), .ref (148), .ref (149), .ref (150), .ref (151), .ref (152), .ref (153), .ref (154)]))) (hm13 : m ≤ 13) {z0 : Int32} (hbad : (inr_ z0 (2 ^ m - 1) && decide (z0 ≠ 0)) = false) : Cl X 9 jX7_inverse [.ref (138), .int (z0)] M (some (.int (-2))) M := by
  refine Cl.of (ls := [some (.ref (138)), some (.int (z0))]) (by decide) rfl (Nat.le_of_ble_eq_true rfl) ?_
  refine x_aload_n dX7_inverse_0 rfl rfl ?_
  refine x_getf (ci := 6) (kf := 0) dX7_inverse_1 rfl uX7 (by decide) fl_RX7_100 hO rfl ?_
  refine x_if_ne (tgt := 10) dX7_inverse_4 (by decide) (fun _ => ?_) (fun h => False.elim (absurd h (by decide)))
  refine x_aload_n dX7_inverse_10 rfl rfl ?_
  refine x_iload_n dX7_inverse_11 rfl rfl ?_
  refine x_callV (ci := 6) (as := [.int (z0)]) dX7_inverse_12 mk_X7_isNumber in_X7_isNumber se_X7_isNumber ml_RX7_128 rfl hO (by decide) rfl rfl (Nat.le_of_ble_eq_true rfl) (c_isNumber hO hm13) ?_
  refine x_if_eq (tgt := 30) dX7_inverse_15 (by decide) (fun h15 => ?_) (fun h15 => ?_)
  · refine x_bipush (y := -2) dX7_inverse_30 rfl ?_
    exact x_ireturn_eq dX7_inverse_32 rfl rfl
  · refine x_iload_n dX7_inverse_18 rfl rfl ?_
    refine x_if_le (tgt := 30) dX7_inverse_19 (by decide) (fun h19 => ?_) (fun h19 => ?_)
    · refine x_bipush (y := -2) dX7_inverse_30 rfl ?_
      exact x_ireturn_eq dX7_inverse_32 rfl rfl
    · exact absurd hbad (by rw [ite1 h15, decide_eq_true (p := z0 ≠ 0) (fun z => h19 (by rw [z]; exact Int32.le_refl _))]; decide)
theorem c_mlogB {X : Ev} {M : Hp} {m t d r n tn : Nat} {me ri lt : Int32} (hO : M[138]? = some (.inr (6, [.int (1), .int (nI m), .int (nI t), .int (nI d), .int (nI r), .int (nI n), .int (nI (2 ^ m - 1)), .ref (139), .ref (140), .ref (141), .ref (142), .ref (143), .ref (144), .ref (145), .ref (146), .ref (147), .int (nI tn), .int (me), .int (ri), .int (lt), .ref (148), .ref (149), .ref (150), .ref (151), .ref (152), .ref (153), .ref (154)]))) (hm13 : m ≤ 13) {z0 : Int32} (hbad : (inr_ z0 (2 ^ m - 1) && decide (z0 ≠ 0)) = false) : Cl X 9 jX7_log [.ref (138), .int (z0)] M (some (.int (-2))) M := by
  refine Cl.of (ls := [some (.ref (138)), some (.int (z0))]) (by decide) rfl (Nat.le_of_ble_eq_true rfl) ?_
  refine x_aload_n dX7_log_0 rfl rfl ?_
  refine x_getf (ci := 6) (kf := 0) dX7_log_1 rfl uX7 (by decide) fl_RX7_100 hO rfl ?_
  refine x_if_ne (tgt := 10) dX7_log_4 (by decide) (fun _ => ?_) (fun h => False.elim (absurd h (by decide)))
  refine x_aload_n dX7_log_10 rfl rfl ?_
  refine x_iload_n dX7_log_11 rfl rfl ?_
  refine x_callV (ci := 6) (as := [.int (z0)]) dX7_log_12 mk_X7_isNumber in_X7_isNumber se_X7_isNumber ml_RX7_128 rfl hO (by decide) rfl rfl (Nat.le_of_ble_eq_true rfl) (c_isNumber hO hm13) ?_
  refine x_if_eq (tgt := 31) dX7_log_15 (by decide) (fun h15 => ?_) (fun h15 => ?_)
  · refine x_bipush (y := -2) dX7_log_31 rfl ?_
    exact x_ireturn_eq dX7_log_33 rfl rfl
  · refine x_iload_n dX7_log_18 rfl rfl ?_
    refine x_if_le (tgt := 31) dX7_log_19 (by decide) (fun h19 => ?_) (fun h19 => ?_)
    · refine x_bipush (y := -2) dX7_log_31 rfl ?_
      exact x_ireturn_eq dX7_log_33 rfl rfl
    · exact absurd hbad (by rw [ite1 h15, decide_eq_true (p := z0 ≠ 0) (fun z => h19 (by rw [z]; exact Int32.le_refl _))]; decide)
theorem c_mtimesB {X : Ev} {M : Hp} {m t d r n tn : Nat} {me ri lt : Int32} (hO : M[138]? = some (.inr (6, [.int (1), .int (nI m), .int (nI t), .int (nI d), .int (nI r), .int (nI n), .int (nI (2 ^ m - 1)), .ref (139), .ref (140), .ref (141), .ref (142), .ref (143), .ref (144), .ref (145), .ref (146), .ref (147), .int (nI tn), .int (me), .int (ri), .int (lt), .ref (148), .ref (149), .ref (150), .ref (151), .ref (152), .ref (153), .ref (154)]))) (hm13 : m ≤ 13) {z0 : Int32} {z1 : Int32} (hbad : (inr_ z0 (2 ^ m - 1) && inr_ z1 (2 ^ m - 1)) = false) : Cl X 9 jX7_times [.ref (138), .int (z0), .int (z1)] M (some (.int (-2))) M := by
  refine Cl.of (ls := [some (.ref (138)), some (.int (z0)), some (.int (z1))]) (by decide) rfl (Nat.le_of_ble_eq_true rfl) ?_
  refine x_aload_n dX7_times_0 rfl rfl ?_
  refine x_getf (ci := 6) (kf := 0) dX7_times_1 rfl uX7 (by decide) fl_RX7_100 hO rfl ?_
  refine x_if_ne (tgt := 10) dX7_times_4 (by decide) (fun _ => ?_) (fun h => False.elim (absurd h (by decide)))
  refine x_aload_n dX7_times_10 rfl rfl ?_
  refine x_iload_n dX7_times_11 rfl rfl ?_
  refine x_callV (ci := 6) (as := [.int (z0)]) dX7_times_12 mk_X7_isNumber in_X7_isNumber se_X7_isNumber ml_RX7_128 rfl hO (by decide) rfl rfl (Nat.le_of_ble_eq_true rfl) (c_isNumber hO hm13) ?_
  refine x_if_eq (tgt := 38) dX7_times_15 (by decide) (fun h15 => ?_) (fun h15 => ?_)
  · refine x_bipush (y := -2) dX7_times_38 rfl ?_
    exact x_ireturn_eq dX7_times_40 rfl rfl
  · refine x_aload_n dX7_times_18 rfl rfl ?_
    refine x_iload_n dX7_times_19 rfl rfl ?_
    refine x_callV (ci := 6) (as := [.int (z1)]) dX7_times_20 mk_X7_isNumber in_X7_isNumber se_X7_isNumber ml_RX7_128 rfl hO (by decide) rfl rfl (Nat.le_of_ble_eq_true rfl) (c_isNumber hO hm13) ?_
    refine x_if_eq (tgt := 38) dX7_times_23 (by decide) (fun h23 => ?_) (fun h23 => ?_)
    · refine x_bipush (y := -2) dX7_times_38 rfl ?_
      exact x_ireturn_eq dX7_times_40 rfl rfl
    · exact absurd hbad (by rw [ite1 h15, ite1 h23]; decide)
theorem c_mminimalB {X : Ev} {M : Hp} {m t d r n tn : Nat} {me ri lt : Int32} (hO : M[138]? = some (.inr (6, [.int (1), .int (nI m), .int (nI t), .int (nI d), .int (nI r), .int (nI n), .int (nI (2 ^ m - 1)), .ref (139), .ref (140), .ref (141), .ref (142), .ref (143), .ref (144), .ref (145), .ref (146), .ref (147), .int (nI tn), .int (me), .int (ri), .int (lt), .ref (148), .ref (149), .ref (150), .ref (151), .ref (152), .ref (153), .ref (154)]))) (hm13 : m ≤ 13) {z0 : Int32} (hbad : inl_ z0 (2 ^ m - 1) = false) : Cl X 9 jX7_minimal [.ref (138), .int (z0)] M (some (.int (-2))) M := by
  have ht : 2 ^ m ≤ 2 ^ 13 := Nat.pow_le_pow_right (by decide) hm13
  refine Cl.of (ls := [some (.ref (138)), some (.int (z0))]) (by decide) rfl (Nat.le_of_ble_eq_true rfl) ?_
  refine x_aload_n dX7_minimal_0 rfl rfl ?_
  refine x_getf (ci := 6) (kf := 0) dX7_minimal_1 rfl uX7 (by decide) fl_RX7_100 hO rfl ?_
  refine x_if_ne (tgt := 10) dX7_minimal_4 (by decide) (fun _ => ?_) (fun h => False.elim (absurd h (by decide)))
  refine x_iload_n dX7_minimal_10 rfl rfl ?_
  refine x_iconst (y := nI 0) dX7_minimal_11 rfl ?_
  refine x_aload_n dX7_minimal_12 rfl rfl ?_
  refine x_getf (ci := 6) (kf := 6) dX7_minimal_13 rfl uX7 (by decide) fl_RX7_64 hO rfl ?_
  refine x_iconst (y := nI 1) dX7_minimal_16 rfl ?_
  refine x_isub dX7_minimal_17 ?_
  refine x_callS (as := [.int (z0), .int (nI 0), .int ((nI (2 ^ m - 1)) - (nI 1))]) dX7_minimal_18 mk_X7_within st_X7_within ml_RX7_68 (by decide) rfl rfl (Nat.le_of_ble_eq_true rfl) (c_within) ?_
  refine x_casti (y := if inl_ z0 (2 ^ m - 1) then 1 else 0) (by rw [wi_l (by omega)]) ?_
  refine x_if_eq (tgt := 32) dX7_minimal_21 (by decide) (fun h21 => ?_) (fun h21 => ?_)
  · refine x_bipush (y := -2) dX7_minimal_32 rfl ?_
    exact x_ireturn_eq dX7_minimal_34 rfl rfl
  · exact absurd hbad (by rw [ite1 h21]; decide)
theorem c_mgeneratorB {X : Ev} {M : Hp} {m t d r n tn : Nat} {me ri lt : Int32} (hO : M[138]? = some (.inr (6, [.int (1), .int (nI m), .int (nI t), .int (nI d), .int (nI r), .int (nI n), .int (nI (2 ^ m - 1)), .ref (139), .ref (140), .ref (141), .ref (142), .ref (143), .ref (144), .ref (145), .ref (146), .ref (147), .int (nI tn), .int (me), .int (ri), .int (lt), .ref (148), .ref (149), .ref (150), .ref (151), .ref (152), .ref (153), .ref (154)])))  {z0 : Int32} (hbad : decide (0 ≤ z0.toInt) = false) : Cl X 9 jX7_generator [.ref (138), .int (z0)] M (some (.int (-2))) M := by
  refine Cl.of (ls := [some (.ref (138)), some (.int (z0))]) (by decide) rfl (Nat.le_of_ble_eq_true rfl) ?_
  refine x_aload_n dX7_generator_0 rfl rfl ?_
  refine x_getf (ci := 6) (kf := 0) dX7_generator_1 rfl uX7 (by decide) fl_RX7_100 hO rfl ?_
  refine x_if_ne (tgt := 10) dX7_generator_4 (by decide) (fun _ => ?_) (fun h => False.elim (absurd h (by decide)))
  refine x_iload_n dX7_generator_10 rfl rfl ?_
  refine x_if_ge (tgt := 19) dX7_generator_11 (by decide) (fun h11 => ?_) (fun h11 => ?_)
  · exact absurd hbad (by rw [decide_eq_true ((i32_ge_iff z0).mp h11)]; decide)
  · refine x_bipush (y := -2) dX7_generator_14 rfl ?_
    refine x_goto (tgt := 37) dX7_generator_16 (by decide) ?_
    exact x_ireturn_eq dX7_generator_37 rfl rfl
theorem c_mpowerB {X : Ev} {M : Hp} {m t d r n tn : Nat} {me ri lt : Int32} (hO : M[138]? = some (.inr (6, [.int (1), .int (nI m), .int (nI t), .int (nI d), .int (nI r), .int (nI n), .int (nI (2 ^ m - 1)), .ref (139), .ref (140), .ref (141), .ref (142), .ref (143), .ref (144), .ref (145), .ref (146), .ref (147), .int (nI tn), .int (me), .int (ri), .int (lt), .ref (148), .ref (149), .ref (150), .ref (151), .ref (152), .ref (153), .ref (154)])))  {z0 : Int32} (hbad : decide (-100000 ≤ z0.toInt ∧ z0.toInt ≤ 100000) = false) : Cl X 9 jX7_power [.ref (138), .int (z0)] M (some (.int (-2))) M := by
  refine Cl.of (ls := [some (.ref (138)), some (.int (z0))]) (by decide) rfl (Nat.le_of_ble_eq_true rfl) ?_
  refine x_aload_n dX7_power_0 rfl rfl ?_
  refine x_getf (ci := 6) (kf := 0) dX7_power_1 rfl uX7 (by decide) fl_RX7_100 hO rfl ?_
  refine x_if_ne (tgt := 10) dX7_power_4 (by decide) (fun _ => ?_) (fun h => False.elim (absurd h (by decide)))
  refine x_iload_n dX7_power_10 rfl rfl ?_
  refine x_ldc (y := (-100000)) dX7_power_11 ki_RX7_135 ?_
  refine x_ldc (y := (100000)) dX7_power_13 ki_RX7_136 ?_
  refine x_callS (as := [.int (z0), .int ((-100000)), .int ((100000))]) dX7_power_15 mk_X7_within st_X7_within ml_RX7_68 (by decide) rfl rfl (Nat.le_of_ble_eq_true rfl) (c_within) ?_
  refine x_if_eq (tgt := 35) dX7_power_18 (by decide) (fun h18 => ?_) (fun h18 => ?_)
  · refine x_bipush (y := -2) dX7_power_35 rfl ?_
    exact x_ireturn_eq dX7_power_37 rfl rfl
  · exact absurd hbad (by rw [show decide (-100000 ≤ z0.toInt ∧ z0.toInt ≤ 100000) = true from ite1 h18]; decide)
theorem c_mrefreshB {X : Ev} {M : Hp} {m t d r n tn : Nat} {me ri lt : Int32} (hO : M[138]? = some (.inr (6, [.int (1), .int (nI m), .int (nI t), .int (nI d), .int (nI r), .int (nI n), .int (nI (2 ^ m - 1)), .ref (139), .ref (140), .ref (141), .ref (142), .ref (143), .ref (144), .ref (145), .ref (146), .ref (147), .int (nI tn), .int (me), .int (ri), .int (lt), .ref (148), .ref (149), .ref (150), .ref (151), .ref (152), .ref (153), .ref (154)])))  {z0 : Int32} (hbad : inl_ z0 65 = false) : Cl X 9 jX7_refresh [.ref (138), .int (z0)] M (some (.int (-2))) M := by
  refine Cl.of (ls := [some (.ref (138)), some (.int (z0)), none, none, none, none]) (by decide) rfl (Nat.le_of_ble_eq_true rfl) ?_
  refine x_aload_n dX7_refresh_0 rfl rfl ?_
  refine x_getf (ci := 6) (kf := 0) dX7_refresh_1 rfl uX7 (by decide) fl_RX7_100 hO rfl ?_
  refine x_if_ne (tgt := 10) dX7_refresh_4 (by decide) (fun _ => ?_) (fun h => False.elim (absurd h (by decide)))
  refine x_iload_n dX7_refresh_10 rfl rfl ?_
  refine x_iconst (y := nI 0) dX7_refresh_11 rfl ?_
  refine x_bipush (y := nI 64) dX7_refresh_12 rfl ?_
  refine x_callS (as := [.int (z0), .int (nI 0), .int (nI 64)]) dX7_refresh_14 mk_X7_within st_X7_within ml_RX7_68 (by decide) rfl rfl (Nat.le_of_ble_eq_true rfl) (c_within) ?_
  refine x_casti (y := if inl_ z0 65 then 1 else 0) (by rw [wi_k (n := 65) rfl (by decide)]) ?_
  refine x_if_ne (tgt := 23) dX7_refresh_17 (by decide) (fun h17 => ?_) (fun h17 => ?_)
  · exact absurd hbad (by rw [ite1 h17]; decide)
  · refine x_bipush (y := -2) dX7_refresh_20 rfl ?_
    exact x_ireturn_eq dX7_refresh_22 rfl rfl
theorem c_mstickB {X : Ev} {M : Hp} {m t d r n tn : Nat} {me ri lt : Int32} (hO : M[138]? = some (.inr (6, [.int (1), .int (nI m), .int (nI t), .int (nI d), .int (nI r), .int (nI n), .int (nI (2 ^ m - 1)), .ref (139), .ref (140), .ref (141), .ref (142), .ref (143), .ref (144), .ref (145), .ref (146), .ref (147), .int (nI tn), .int (me), .int (ri), .int (lt), .ref (148), .ref (149), .ref (150), .ref (151), .ref (152), .ref (153), .ref (154)]))) (hn31 : n < 2 ^ 31) {z0 : Int32} {z1 : Int32} {z2 : Int32} (hbad : (inl_ z0 16 && inl_ z1 n && decide (-1 ≤ z2.toInt ∧ z2.toInt ≤ 1)) = false) : Cl X 9 jX7_stick [.ref (138), .int (z0), .int (z1), .int (z2)] M (some (.int (-2))) M := by
  refine Cl.of (ls := [some (.ref (138)), some (.int (z0)), some (.int (z1)), some (.int (z2)), none]) (by decide) rfl (Nat.le_of_ble_eq_true rfl) ?_
  refine x_aload_n dX7_stick_0 rfl rfl ?_
  refine x_getf (ci := 6) (kf := 0) dX7_stick_1 rfl uX7 (by decide) fl_RX7_100 hO rfl ?_
  refine x_if_ne (tgt := 10) dX7_stick_4 (by decide) (fun _ => ?_) (fun h => False.elim (absurd h (by decide)))
  refine x_aload_n dX7_stick_10 rfl rfl ?_
  refine x_iload_n dX7_stick_11 rfl rfl ?_
  refine x_iload_n dX7_stick_12 rfl rfl ?_
  refine x_callV (ci := 6) (as := [.int (z0), .int (z1)]) dX7_stick_13 mk_X7_isBit in_X7_isBit se_X7_isBit ml_RX7_155 rfl hO (by decide) rfl rfl (Nat.le_of_ble_eq_true rfl) (c_isBit hO hn31) ?_
  refine x_if_eq (tgt := 28) dX7_stick_16 (by decide) (fun h16 => ?_) (fun h16 => ?_)
  · refine x_bipush (y := -2) dX7_stick_28 rfl ?_
    exact x_ireturn_eq dX7_stick_30 rfl rfl
  · refine x_iload_n dX7_stick_19 rfl rfl ?_
    refine x_iconst (y := -1) dX7_stick_20 rfl ?_
    refine x_iconst (y := nI 1) dX7_stick_21 rfl ?_
    refine x_callS (as := [.int (z2), .int (-1), .int (nI 1)]) dX7_stick_22 mk_X7_within st_X7_within ml_RX7_68 (by decide) rfl rfl (Nat.le_of_ble_eq_true rfl) (c_within) ?_
    refine x_if_ne (tgt := 31) dX7_stick_25 (by decide) (fun h25 => ?_) (fun h25 => ?_)
    · exact absurd hbad (by rw [ite1 h16, show decide (-1 ≤ z2.toInt ∧ z2.toInt ≤ 1) = true from ite1 h25]; decide)
    · refine x_bipush (y := -2) dX7_stick_28 rfl ?_
      exact x_ireturn_eq dX7_stick_30 rfl rfl
theorem c_msyndromeB {X : Ev} {M : Hp} {m t d r n tn : Nat} {me ri lt : Int32} (hO : M[138]? = some (.inr (6, [.int (1), .int (nI m), .int (nI t), .int (nI d), .int (nI r), .int (nI n), .int (nI (2 ^ m - 1)), .ref (139), .ref (140), .ref (141), .ref (142), .ref (143), .ref (144), .ref (145), .ref (146), .ref (147), .int (nI tn), .int (me), .int (ri), .int (lt), .ref (148), .ref (149), .ref (150), .ref (151), .ref (152), .ref (153), .ref (154)]))) (ht8 : t ≤ 8) {z0 : Int32} {z1 : Int32} (hbad : (inl_ z0 16 && decide (1 ≤ z1.toInt ∧ z1.toInt ≤ 2 * (t : Int))) = false) : Cl X 9 jX7_syndrome [.ref (138), .int (z0), .int (z1)] M (some (.int (-2))) M := by
  refine Cl.of (ls := [some (.ref (138)), some (.int (z0)), some (.int (z1)), none]) (by decide) rfl (Nat.le_of_ble_eq_true rfl) ?_
  refine x_aload_n dX7_syndrome_0 rfl rfl ?_
  refine x_getf (ci := 6) (kf := 0) dX7_syndrome_1 rfl uX7 (by decide) fl_RX7_100 hO rfl ?_
  refine x_if_ne (tgt := 10) dX7_syndrome_4 (by decide) (fun _ => ?_) (fun h => False.elim (absurd h (by decide)))
  refine x_iload_n dX7_syndrome_10 rfl rfl ?_
  refine x_callS (as := [.int (z0)]) dX7_syndrome_11 mk_X7_isPage st_X7_isPage ml_RX7_142 (by decide) rfl rfl (Nat.le_of_ble_eq_true rfl) (c_isPage) ?_
  refine x_if_eq (tgt := 31) dX7_syndrome_14 (by decide) (fun h14 => ?_) (fun h14 => ?_)
  · refine x_bipush (y := -2) dX7_syndrome_31 rfl ?_
    exact x_ireturn_eq dX7_syndrome_33 rfl rfl
  · refine x_iload_n dX7_syndrome_17 rfl rfl ?_
    refine x_iconst (y := nI 1) dX7_syndrome_18 rfl ?_
    refine x_iconst (y := nI 2) dX7_syndrome_19 rfl ?_
    refine x_aload_n dX7_syndrome_20 rfl rfl ?_
    refine x_getf (ci := 6) (kf := 2) dX7_syndrome_21 rfl uX7 (by decide) fl_RX7_104 hO rfl ?_
    refine x_imul dX7_syndrome_24 ?_
    refine x_casti (y := nI (2 * t)) (pk_mul _ _) ?_
    refine x_callS (as := [.int (z1), .int (nI 1), .int (nI (2 * t))]) dX7_syndrome_25 mk_X7_within st_X7_within ml_RX7_68 (by decide) rfl rfl (Nat.le_of_ble_eq_true rfl) (c_within) ?_
    refine x_casti (y := if decide (1 ≤ z1.toInt ∧ z1.toInt ≤ 2 * (t : Int)) then 1 else 0) (by rw [wi_s ht8]) ?_
    refine x_if_ne (tgt := 34) dX7_syndrome_28 (by decide) (fun h28 => ?_) (fun h28 => ?_)
    · exact absurd hbad (by rw [ite1 h14, ite1 h28]; decide)
    · refine x_bipush (y := -2) dX7_syndrome_31 rfl ?_
      exact x_ireturn_eq dX7_syndrome_33 rfl rfl
theorem c_mtoldB {X : Ev} {M : Hp} {m t d r n tn : Nat} {me ri lt : Int32} (hO : M[138]? = some (.inr (6, [.int (1), .int (nI m), .int (nI t), .int (nI d), .int (nI r), .int (nI n), .int (nI (2 ^ m - 1)), .ref (139), .ref (140), .ref (141), .ref (142), .ref (143), .ref (144), .ref (145), .ref (146), .ref (147), .int (nI tn), .int (me), .int (ri), .int (lt), .ref (148), .ref (149), .ref (150), .ref (151), .ref (152), .ref (153), .ref (154)])))  {z0 : Int32} {z1 : Int32} (hbad : (inl_ z0 16 && inl_ z1 20) = false) : Cl X 9 jX7_told [.ref (138), .int (z0), .int (z1)] M (some (.int (-2))) M := by
  refine Cl.of (ls := [some (.ref (138)), some (.int (z0)), some (.int (z1)), none, none, none]) (by decide) rfl (Nat.le_of_ble_eq_true rfl) ?_
  refine x_aload_n dX7_told_0 rfl rfl ?_
  refine x_getf (ci := 6) (kf := 0) dX7_told_1 rfl uX7 (by decide) fl_RX7_100 hO rfl ?_
  refine x_if_ne (tgt := 10) dX7_told_4 (by decide) (fun _ => ?_) (fun h => False.elim (absurd h (by decide)))
  refine x_iload_n dX7_told_10 rfl rfl ?_
  refine x_callS (as := [.int (z0)]) dX7_told_11 mk_X7_isPage st_X7_isPage ml_RX7_142 (by decide) rfl rfl (Nat.le_of_ble_eq_true rfl) (c_isPage) ?_
  refine x_if_eq (tgt := 27) dX7_told_14 (by decide) (fun h14 => ?_) (fun h14 => ?_)
  · refine x_bipush (y := -2) dX7_told_27 rfl ?_
    exact x_ireturn_eq dX7_told_29 rfl rfl
  · refine x_iload_n dX7_told_17 rfl rfl ?_
    refine x_iconst (y := nI 0) dX7_told_18 rfl ?_
    refine x_bipush (y := nI 19) dX7_told_19 rfl ?_
    refine x_callS (as := [.int (z1), .int (nI 0), .int (nI 19)]) dX7_told_21 mk_X7_within st_X7_within ml_RX7_68 (by decide) rfl rfl (Nat.le_of_ble_eq_true rfl) (c_within) ?_
    refine x_casti (y := if inl_ z1 20 then 1 else 0) (by rw [wi_k (n := 20) rfl (by decide)]) ?_
    refine x_if_ne (tgt := 30) dX7_told_24 (by decide) (fun h24 => ?_) (fun h24 => ?_)
    · exact absurd hbad (by rw [ite1 h14, ite1 h24]; decide)
    · refine x_bipush (y := -2) dX7_told_27 rfl ?_
      exact x_ireturn_eq dX7_told_29 rfl rfl
theorem c_mtimes {X : Ev} {M : Hp} {m t d r n tn : Nat} {me ri lt : Int32} (hO : M[138]? = some (.inr (6, [.int (1), .int (nI m), .int (nI t), .int (nI d), .int (nI r), .int (nI n), .int (nI (2 ^ m - 1)), .ref (139), .ref (140), .ref (141), .ref (142), .ref (143), .ref (144), .ref (145), .ref (146), .ref (147), .int (nI tn), .int (me), .int (ri), .int (lt), .ref (148), .ref (149), .ref (150), .ref (151), .ref (152), .ref (153), .ref (154)]))) (h3 : 3 ≤ m) (hm13 : m ≤ 13) {a b : Nat} (ha : a < 2 ^ m) (hb : b < 2 ^ m) : Cl X 9 jX7_times [.ref (138), .int (nI a), .int (nI b)] M (some (.int (nI (prh m a b m)))) M := by
  have ht : 2 ^ m ≤ 2 ^ 13 := Nat.pow_le_pow_right (by decide) hm13
  refine Cl.of (ls := [some (.ref (138)), some (.int (nI a)), some (.int (nI b))]) (by decide) rfl (Nat.le_of_ble_eq_true rfl) ?_
  refine x_aload_n dX7_times_0 rfl rfl ?_
  refine x_getf (ci := 6) (kf := 0) dX7_times_1 rfl uX7 (by decide) fl_RX7_100 hO rfl ?_
  refine x_if_ne (tgt := 10) dX7_times_4 (by decide) (fun _ => ?_) (fun h => False.elim (absurd h (by decide)))
  refine x_aload_n dX7_times_10 rfl rfl ?_
  refine x_iload_n dX7_times_11 rfl rfl ?_
  refine x_callV (ci := 6) (as := [.int (nI a)]) dX7_times_12 mk_X7_isNumber in_X7_isNumber se_X7_isNumber ml_RX7_128 rfl hO (by decide) rfl rfl (Nat.le_of_ble_eq_true rfl) (c_isNumber hO hm13) ?_
  refine x_if_eq (tgt := 38) dX7_times_15 (by decide) (fun h => False.elim (ite_ne (inr_n h3 hm13 ha) h)) (fun _ => ?_)
  refine x_aload_n dX7_times_18 rfl rfl ?_
  refine x_iload_n dX7_times_19 rfl rfl ?_
  refine x_callV (ci := 6) (as := [.int (nI b)]) dX7_times_20 mk_X7_isNumber in_X7_isNumber se_X7_isNumber ml_RX7_128 rfl hO (by decide) rfl rfl (Nat.le_of_ble_eq_true rfl) (c_isNumber hO hm13) ?_
  refine x_if_eq (tgt := 38) dX7_times_23 (by decide) (fun h => False.elim (ite_ne (inr_n h3 hm13 hb) h)) (fun _ => ?_)
  refine x_iload_n dX7_times_26 rfl rfl ?_
  refine x_iload_n dX7_times_27 rfl rfl ?_
  refine x_aload_n dX7_times_28 rfl rfl ?_
  refine x_getf (ci := 6) (kf := 1) dX7_times_29 rfl uX7 (by decide) fl_RX7_86 hO rfl ?_
  refine x_callS (as := [.int (nI a), .int (nI b), .int (nI m)]) dX7_times_32 mk_X7_product st_X7_product ml_RX7_89 (by decide) rfl rfl (Nat.le_of_ble_eq_true rfl) (c_mproduct h3 hm13 ha (by omega)) ?_
  refine x_goto (tgt := 40) dX7_times_35 (by decide) ?_
  exact x_ireturn_eq dX7_times_40 rfl rfl
theorem c_minverse {X : Ev} {M : Hp} {m t d r n tn : Nat} {me ri lt : Int32} (hO : M[138]? = some (.inr (6, [.int (1), .int (nI m), .int (nI t), .int (nI d), .int (nI r), .int (nI n), .int (nI (2 ^ m - 1)), .ref (139), .ref (140), .ref (141), .ref (142), .ref (143), .ref (144), .ref (145), .ref (146), .ref (147), .int (nI tn), .int (me), .int (ri), .int (lt), .ref (148), .ref (149), .ref (150), .ref (151), .ref (152), .ref (153), .ref (154)]))) {pw : Nat → Int32} (hp : M[139]? = some (.inl (0, 8192, .inl (pw)))) {lg : Nat → Int32} (hq : M[140]? = some (.inl (0, 8192, .inl (lg)))) (hF : FT pw lg m) {a : Nat} (ha0 : a ≠ 0) (ha : a < 2 ^ m) : Cl X 9 jX7_inverse [.ref (138), .int (nI a)] M (some (.int (nI (finv m a)))) M := by
  have ht := two_le hF.1.1 hF.1.2
  have hm3 := hF.1.1
  have hm13 := hF.1.2
  refine Cl.of (ls := [some (.ref (138)), some (.int (nI a))]) (by decide) rfl (Nat.le_of_ble_eq_true rfl) ?_
  refine x_aload_n dX7_inverse_0 rfl rfl ?_
  refine x_getf (ci := 6) (kf := 0) dX7_inverse_1 rfl uX7 (by decide) fl_RX7_100 hO rfl ?_
  refine x_if_ne (tgt := 10) dX7_inverse_4 (by decide) (fun _ => ?_) (fun h => False.elim (absurd h (by decide)))
  refine x_aload_n dX7_inverse_10 rfl rfl ?_
  refine x_iload_n dX7_inverse_11 rfl rfl ?_
  refine x_callV (ci := 6) (as := [.int (nI a)]) dX7_inverse_12 mk_X7_isNumber in_X7_isNumber se_X7_isNumber ml_RX7_128 rfl hO (by decide) rfl rfl (Nat.le_of_ble_eq_true rfl) (c_isNumber hO hm13) ?_
  refine x_if_eq (tgt := 30) dX7_inverse_15 (by decide) (fun h => False.elim (ite_ne (inr_n hm3 hm13 ha) h)) (fun _ => ?_)
  refine x_iload_n dX7_inverse_18 rfl rfl ?_
  refine x_if_le (tgt := 30) dX7_inverse_19 (by decide) (fun h => False.elim (absurd (Int32.le_iff_toInt_le.mp h) (by rw [nI_toInt (by omega)]; show ¬ ((a : Nat) : Int) ≤ 0; omega))) (fun _ => ?_)
  refine x_aload_n dX7_inverse_22 rfl rfl ?_
  refine x_iload_n dX7_inverse_23 rfl rfl ?_
  refine x_callV (ci := 6) (as := [.int (nI a)]) dX7_inverse_24 mk_X7_over in_X7_over se_X7_over ml_RX7_132 rfl hO (by decide) rfl rfl (Nat.le_of_ble_eq_true rfl) (c_over hO hp hq hF ha0 ha) ?_
  refine x_goto (tgt := 32) dX7_inverse_27 (by decide) ?_
  exact x_ireturn_eq dX7_inverse_32 rfl rfl
theorem c_mlog {X : Ev} {M : Hp} {m t d r n tn : Nat} {me ri lt : Int32} (hO : M[138]? = some (.inr (6, [.int (1), .int (nI m), .int (nI t), .int (nI d), .int (nI r), .int (nI n), .int (nI (2 ^ m - 1)), .ref (139), .ref (140), .ref (141), .ref (142), .ref (143), .ref (144), .ref (145), .ref (146), .ref (147), .int (nI tn), .int (me), .int (ri), .int (lt), .ref (148), .ref (149), .ref (150), .ref (151), .ref (152), .ref (153), .ref (154)]))) {pw : Nat → Int32} (hp : M[139]? = some (.inl (0, 8192, .inl (pw)))) {lg : Nat → Int32} (hq : M[140]? = some (.inl (0, 8192, .inl (lg)))) (hF : FT pw lg m) {a : Nat} (ha0 : a ≠ 0) (ha : a < 2 ^ m) : Cl X 9 jX7_log [.ref (138), .int (nI a)] M (some (.int (nI (lgn m a)))) M := by
  have ht := two_le hF.1.1 hF.1.2
  have hm3 := hF.1.1
  have hm13 := hF.1.2
  refine Cl.of (ls := [some (.ref (138)), some (.int (nI a))]) (by decide) rfl (Nat.le_of_ble_eq_true rfl) ?_
  refine x_aload_n dX7_log_0 rfl rfl ?_
  refine x_getf (ci := 6) (kf := 0) dX7_log_1 rfl uX7 (by decide) fl_RX7_100 hO rfl ?_
  refine x_if_ne (tgt := 10) dX7_log_4 (by decide) (fun _ => ?_) (fun h => False.elim (absurd h (by decide)))
  refine x_aload_n dX7_log_10 rfl rfl ?_
  refine x_iload_n dX7_log_11 rfl rfl ?_
  refine x_callV (ci := 6) (as := [.int (nI a)]) dX7_log_12 mk_X7_isNumber in_X7_isNumber se_X7_isNumber ml_RX7_128 rfl hO (by decide) rfl rfl (Nat.le_of_ble_eq_true rfl) (c_isNumber hO hm13) ?_
  refine x_if_eq (tgt := 31) dX7_log_15 (by decide) (fun h => False.elim (ite_ne (inr_n hm3 hm13 ha) h)) (fun _ => ?_)
  refine x_iload_n dX7_log_18 rfl rfl ?_
  refine x_if_le (tgt := 31) dX7_log_19 (by decide) (fun h => False.elim (absurd (Int32.le_iff_toInt_le.mp h) (by rw [nI_toInt (by omega)]; show ¬ ((a : Nat) : Int) ≤ 0; omega))) (fun _ => ?_)
  refine x_aload_n dX7_log_22 rfl rfl ?_
  refine x_getf (ci := 6) (kf := 8) dX7_log_23 rfl uX7 (by decide) fl_RX7_13 hO rfl ?_
  refine x_iload_n dX7_log_26 rfl rfl ?_
  refine x_ild (j := a) dX7_log_27 hq rfl (by omega) (by decide) ?_
  refine x_casti (y := nI (lgn m a)) (hF.lg ha0 ha) ?_
  refine x_goto (tgt := 33) dX7_log_28 (by decide) ?_
  exact x_ireturn_eq dX7_log_33 rfl rfl
theorem redl_i {z : Int32} {n : Nat} : redl z.toInt64 n = red z n := by unfold redl red; rw [Int32.toInt_toInt64]
theorem c_mpower {X : Ev} {M : Hp} {m t d r n tn : Nat} {me ri lt : Int32} (hO : M[138]? = some (.inr (6, [.int (1), .int (nI m), .int (nI t), .int (nI d), .int (nI r), .int (nI n), .int (nI (2 ^ m - 1)), .ref (139), .ref (140), .ref (141), .ref (142), .ref (143), .ref (144), .ref (145), .ref (146), .ref (147), .int (nI tn), .int (me), .int (ri), .int (lt), .ref (148), .ref (149), .ref (150), .ref (151), .ref (152), .ref (153), .ref (154)]))) {pw : Nat → Int32} (hp : M[139]? = some (.inl (0, 8192, .inl (pw)))) {lg : Nat → Int32} (hF : FT pw lg m) {z : Int32} (hz1 : -100000 ≤ z.toInt) (hz2 : z.toInt ≤ 100000) : Cl X 9 jX7_power [.ref (138), .int (z)] M (some (.int (nI (pwr m (red z (2 ^ m - 1)))))) M := by
  have ht := two_le hF.1.1 hF.1.2
  have hm3 := hF.1.1
  have hm13 := hF.1.2
  have hr := red_lt z (n := 2 ^ m - 1) (by omega)
  refine Cl.of (ls := [some (.ref (138)), some (.int (z))]) (by decide) rfl (Nat.le_of_ble_eq_true rfl) ?_
  refine x_aload_n dX7_power_0 rfl rfl ?_
  refine x_getf (ci := 6) (kf := 0) dX7_power_1 rfl uX7 (by decide) fl_RX7_100 hO rfl ?_
  refine x_if_ne (tgt := 10) dX7_power_4 (by decide) (fun _ => ?_) (fun h => False.elim (absurd h (by decide)))
  refine x_iload_n dX7_power_10 rfl rfl ?_
  refine x_ldc (y := (-100000)) dX7_power_11 ki_RX7_135 ?_
  refine x_ldc (y := (100000)) dX7_power_13 ki_RX7_136 ?_
  refine x_callS (as := [.int (z), .int ((-100000)), .int ((100000))]) dX7_power_15 mk_X7_within st_X7_within ml_RX7_68 (by decide) rfl rfl (Nat.le_of_ble_eq_true rfl) (c_within) ?_
  refine x_if_eq (tgt := 35) dX7_power_18 (by decide) (fun h => False.elim (ite_ne (b := wi z (-100000) 100000) (decide_eq_true ⟨hz1, hz2⟩) h)) (fun _ => ?_)
  refine x_aload_n dX7_power_21 rfl rfl ?_
  refine x_getf (ci := 6) (kf := 7) dX7_power_22 rfl uX7 (by decide) fl_RX7_7 hO rfl ?_
  refine x_aload_n dX7_power_25 rfl rfl ?_
  refine x_iload_n dX7_power_26 rfl rfl ?_
  refine x_i2l dX7_power_27 ?_
  refine x_callV (ci := 6) (as := [.long ((z).toInt64)]) dX7_power_28 mk_X7_exponent in_X7_exponent se_X7_exponent ml_RX7_76 rfl hO (by decide) rfl rfl (Nat.le_of_ble_eq_true rfl) (c_exponent hO (by omega) hm13) ?_
  refine x_casti (y := nI (red z (2 ^ m - 1))) (by rw [redl_i]) ?_
  refine x_ild (j := red z (2 ^ m - 1)) dX7_power_31 hp rfl (by omega) (by decide) ?_
  refine x_casti (y := nI (pwr m (red z (2 ^ m - 1)))) ((hF.2 _ hr).1) ?_
  refine x_goto (tgt := 37) dX7_power_32 (by decide) ?_
  exact x_ireturn_eq dX7_power_37 rfl rfl
theorem c_mminimal {X : Ev} {M : Hp} {m t d r n tn : Nat} {me ri lt : Int32} (hO : M[138]? = some (.inr (6, [.int (1), .int (nI m), .int (nI t), .int (nI d), .int (nI r), .int (nI n), .int (nI (2 ^ m - 1)), .ref (139), .ref (140), .ref (141), .ref (142), .ref (143), .ref (144), .ref (145), .ref (146), .ref (147), .int (nI tn), .int (me), .int (ri), .int (lt), .ref (148), .ref (149), .ref (150), .ref (151), .ref (152), .ref (153), .ref (154)]))) {pw : Nat → Int32} (hp : M[139]? = some (.inl (0, 8192, .inl (pw)))) {lg : Nat → Int32} (hq : M[140]? = some (.inl (0, 8192, .inl (lg)))) {md : Nat → Nat} (hmd : M[148]? = some (.inl (0, 16, .inl (fun j => nI ((md) j))))) (hF : FT pw lg m) {i : Nat} (hi : i < 2 ^ m - 1) : Cl X 9 jX7_minimal [.ref (138), .int (nI i)] M (some (.int (nI (mpoly m i)))) (M.set (148) (.inl (0, 16, .inl (fun j => nI ((mdc m i md (csize i m)) j))))) := by
  have ht := two_le hF.1.1 hF.1.2
  have hm3 := hF.1.1
  have hm13 := hF.1.2
  refine Cl.of (ls := [some (.ref (138)), some (.int (nI i))]) (by decide) rfl (Nat.le_of_ble_eq_true rfl) ?_
  refine x_aload_n dX7_minimal_0 rfl rfl ?_
  refine x_getf (ci := 6) (kf := 0) dX7_minimal_1 rfl uX7 (by decide) fl_RX7_100 hO rfl ?_
  refine x_if_ne (tgt := 10) dX7_minimal_4 (by decide) (fun _ => ?_) (fun h => False.elim (absurd h (by decide)))
  refine x_iload_n dX7_minimal_10 rfl rfl ?_
  refine x_iconst (y := nI 0) dX7_minimal_11 rfl ?_
  refine x_aload_n dX7_minimal_12 rfl rfl ?_
  refine x_getf (ci := 6) (kf := 6) dX7_minimal_13 rfl uX7 (by decide) fl_RX7_64 hO rfl ?_
  refine x_iconst (y := nI 1) dX7_minimal_16 rfl ?_
  refine x_isub dX7_minimal_17 ?_
  refine x_callS (as := [.int (nI i), .int (nI 0), .int ((nI (2 ^ m - 1)) - (nI 1))]) dX7_minimal_18 mk_X7_within st_X7_within ml_RX7_68 (by decide) rfl rfl (Nat.le_of_ble_eq_true rfl) (c_within) ?_
  refine x_casti (y := if inl_ (nI i) (2 ^ m - 1) then 1 else 0) (by rw [wi_l (by omega)]) ?_
  refine x_if_eq (tgt := 32) dX7_minimal_21 (by decide) (fun h => False.elim (ite_ne (inl_n hi (by omega)) h)) (fun _ => ?_)
  refine x_aload_n dX7_minimal_24 rfl rfl ?_
  refine x_iload_n dX7_minimal_25 rfl rfl ?_
  refine x_callV (ci := 6) (as := [.int (nI i)]) dX7_minimal_26 mk_X7_minimalOf in_X7_minimalOf se_X7_minimalOf ml_RX7_83 rfl hO (by decide) rfl rfl (Nat.le_of_ble_eq_true rfl) (c_minimalOf hO hp hq hmd hF hi) ?_
  refine x_goto (tgt := 34) dX7_minimal_29 (by decide) ?_
  exact x_ireturn_eq dX7_minimal_34 rfl rfl
theorem c_mgenerator {X : Ev} {M : Hp} {m t d r n tn : Nat} {me ri lt : Int32} (hO : M[138]? = some (.inr (6, [.int (1), .int (nI m), .int (nI t), .int (nI d), .int (nI r), .int (nI n), .int (nI (2 ^ m - 1)), .ref (139), .ref (140), .ref (141), .ref (142), .ref (143), .ref (144), .ref (145), .ref (146), .ref (147), .int (nI tn), .int (me), .int (ri), .int (lt), .ref (148), .ref (149), .ref (150), .ref (151), .ref (152), .ref (153), .ref (154)]))) {gg : Nat → Bool} (hgg : M[141]? = some (.inl (0, 210, .inl (fun j => nI ((gg) j).toNat)))) (hr8 : r ≤ 208) {i : Nat} (hi : i ≤ r) : Cl X 9 jX7_generator [.ref (138), .int (nI i)] M (some (.int (nI (gg i).toNat))) M := by
  refine Cl.of (ls := [some (.ref (138)), some (.int (nI i))]) (by decide) rfl (Nat.le_of_ble_eq_true rfl) ?_
  refine x_aload_n dX7_generator_0 rfl rfl ?_
  refine x_getf (ci := 6) (kf := 0) dX7_generator_1 rfl uX7 (by decide) fl_RX7_100 hO rfl ?_
  refine x_if_ne (tgt := 10) dX7_generator_4 (by decide) (fun _ => ?_) (fun h => False.elim (absurd h (by decide)))
  refine x_iload_n dX7_generator_10 rfl rfl ?_
  refine x_if_ge (tgt := 19) dX7_generator_11 (by decide) (fun _ => ?_) (fun h => False.elim (h ((i32_ge_iff _).mpr (by rw [nI_toInt (by omega)]; omega))))
  refine x_iload_n dX7_generator_19 rfl rfl ?_
  refine x_aload_n dX7_generator_20 rfl rfl ?_
  refine x_getf (ci := 6) (kf := 4) dX7_generator_21 rfl uX7 (by decide) fl_RX7_110 hO rfl ?_
  refine x_icmp_gt (tgt := 36) dX7_generator_24 (by decide) (fun h => False.elim (absurd ((nI_ltI (by omega) (by omega)).mp h) (by omega))) (fun _ => ?_)
  refine x_aload_n dX7_generator_27 rfl rfl ?_
  refine x_getf (ci := 6) (kf := 9) dX7_generator_28 rfl uX7 (by decide) fl_RX7_16 hO rfl ?_
  refine x_iload_n dX7_generator_31 rfl rfl ?_
  refine x_ild (j := i) dX7_generator_32 hgg rfl (by omega) (by decide) ?_
  refine x_goto (tgt := 37) dX7_generator_33 (by decide) ?_
  exact x_ireturn_eq dX7_generator_37 rfl rfl
theorem c_mgeneratorZ {X : Ev} {M : Hp} {m t d r n tn : Nat} {me ri lt : Int32} (hO : M[138]? = some (.inr (6, [.int (1), .int (nI m), .int (nI t), .int (nI d), .int (nI r), .int (nI n), .int (nI (2 ^ m - 1)), .ref (139), .ref (140), .ref (141), .ref (142), .ref (143), .ref (144), .ref (145), .ref (146), .ref (147), .int (nI tn), .int (me), .int (ri), .int (lt), .ref (148), .ref (149), .ref (150), .ref (151), .ref (152), .ref (153), .ref (154)]))) (hr8 : r ≤ 208) {z : Int32} (hz : (r : Int) < z.toInt) : Cl X 9 jX7_generator [.ref (138), .int (z)] M (some (.int (0))) M := by
  refine Cl.of (ls := [some (.ref (138)), some (.int (z))]) (by decide) rfl (Nat.le_of_ble_eq_true rfl) ?_
  refine x_aload_n dX7_generator_0 rfl rfl ?_
  refine x_getf (ci := 6) (kf := 0) dX7_generator_1 rfl uX7 (by decide) fl_RX7_100 hO rfl ?_
  refine x_if_ne (tgt := 10) dX7_generator_4 (by decide) (fun _ => ?_) (fun h => False.elim (absurd h (by decide)))
  refine x_iload_n dX7_generator_10 rfl rfl ?_
  refine x_if_ge (tgt := 19) dX7_generator_11 (by decide) (fun _ => ?_) (fun h => False.elim (h ((i32_ge_iff z).mpr (by omega))))
  refine x_iload_n dX7_generator_19 rfl rfl ?_
  refine x_aload_n dX7_generator_20 rfl rfl ?_
  refine x_getf (ci := 6) (kf := 4) dX7_generator_21 rfl uX7 (by decide) fl_RX7_110 hO rfl ?_
  refine x_icmp_gt (tgt := 36) dX7_generator_24 (by decide) (fun _ => ?_) (fun h => False.elim (h (Int32.lt_iff_toInt_lt.mpr (by rw [nI_toInt (by omega)]; omega))))
  refine x_iconst (y := nI 0) dX7_generator_36 rfl ?_
  exact x_ireturn_eq dX7_generator_37 rfl rfl
theorem c_mget {X : Ev} {M : Hp} {m t d r n tn : Nat} {me ri lt : Int32} (hO : M[138]? = some (.inr (6, [.int (1), .int (nI m), .int (nI t), .int (nI d), .int (nI r), .int (nI n), .int (nI (2 ^ m - 1)), .ref (139), .ref (140), .ref (141), .ref (142), .ref (143), .ref (144), .ref (145), .ref (146), .ref (147), .int (nI tn), .int (me), .int (ri), .int (lt), .ref (148), .ref (149), .ref (150), .ref (151), .ref (152), .ref (153), .ref (154)]))) {bu : Nat → Nat} (hbu : M[142]? = some (.inl (0, 256, .inl (fun j => nI ((bu) j))))) (hd8 : d ≤ 256) {i : Nat} (hi : i < d) : Cl X 9 jX7_get [.ref (138), .int (nI i)] M (some (.int (nI (bu i)))) M := by
  refine Cl.of (ls := [some (.ref (138)), some (.int (nI i))]) (by decide) rfl (Nat.le_of_ble_eq_true rfl) ?_
  refine x_aload_n dX7_get_0 rfl rfl ?_
  refine x_getf (ci := 6) (kf := 0) dX7_get_1 rfl uX7 (by decide) fl_RX7_100 hO rfl ?_
  refine x_if_ne (tgt := 10) dX7_get_4 (by decide) (fun _ => ?_) (fun h => False.elim (absurd h (by decide)))
  refine x_iload_n dX7_get_10 rfl rfl ?_
  refine x_iconst (y := nI 0) dX7_get_11 rfl ?_
  refine x_aload_n dX7_get_12 rfl rfl ?_
  refine x_getf (ci := 6) (kf := 3) dX7_get_13 rfl uX7 (by decide) fl_RX7_107 hO rfl ?_
  refine x_iconst (y := nI 1) dX7_get_16 rfl ?_
  refine x_isub dX7_get_17 ?_
  refine x_callS (as := [.int (nI i), .int (nI 0), .int ((nI d) - (nI 1))]) dX7_get_18 mk_X7_within st_X7_within ml_RX7_68 (by decide) rfl rfl (Nat.le_of_ble_eq_true rfl) (c_within) ?_
  refine x_casti (y := if inl_ (nI i) d then 1 else 0) (by rw [wi_l (by omega)]) ?_
  refine x_if_eq (tgt := 33) dX7_get_21 (by decide) (fun h => False.elim (ite_ne (inl_n hi (by omega)) h)) (fun _ => ?_)
  refine x_aload_n dX7_get_24 rfl rfl ?_
  refine x_getf (ci := 6) (kf := 10) dX7_get_25 rfl uX7 (by decide) fl_RX7_19 hO rfl ?_
  refine x_iload_n dX7_get_28 rfl rfl ?_
  refine x_ild (j := i) dX7_get_29 hbu rfl (by omega) (by decide) ?_
  refine x_goto (tgt := 35) dX7_get_30 (by decide) ?_
  exact x_ireturn_eq dX7_get_35 rfl rfl
theorem c_mput {X : Ev} {M : Hp} {m t d r n tn : Nat} {me ri lt : Int32} (hO : M[138]? = some (.inr (6, [.int (1), .int (nI m), .int (nI t), .int (nI d), .int (nI r), .int (nI n), .int (nI (2 ^ m - 1)), .ref (139), .ref (140), .ref (141), .ref (142), .ref (143), .ref (144), .ref (145), .ref (146), .ref (147), .int (nI tn), .int (me), .int (ri), .int (lt), .ref (148), .ref (149), .ref (150), .ref (151), .ref (152), .ref (153), .ref (154)]))) {bu : Nat → Nat} (hbu : M[142]? = some (.inl (0, 256, .inl (fun j => nI ((bu) j))))) (hd8 : d ≤ 256) {i : Nat} (hi : i < d) {z : Int32} : Cl X 9 jX7_put [.ref (138), .int (nI i), .int (z)] M (some (.int (nI (bu i)))) (M.set (142) (.inl (0, 256, .inl (fun j => nI ((nup bu (i) (b255 z)) j))))) := by
  refine Cl.of (ls := [some (.ref (138)), some (.int (nI i)), some (.int (z)), none]) (by decide) rfl (Nat.le_of_ble_eq_true rfl) ?_
  refine x_aload_n dX7_put_0 rfl rfl ?_
  refine x_getf (ci := 6) (kf := 0) dX7_put_1 rfl uX7 (by decide) fl_RX7_100 hO rfl ?_
  refine x_if_ne (tgt := 10) dX7_put_4 (by decide) (fun _ => ?_) (fun h => False.elim (absurd h (by decide)))
  refine x_iload_n dX7_put_10 rfl rfl ?_
  refine x_iconst (y := nI 0) dX7_put_11 rfl ?_
  refine x_aload_n dX7_put_12 rfl rfl ?_
  refine x_getf (ci := 6) (kf := 3) dX7_put_13 rfl uX7 (by decide) fl_RX7_107 hO rfl ?_
  refine x_iconst (y := nI 1) dX7_put_16 rfl ?_
  refine x_isub dX7_put_17 ?_
  refine x_callS (as := [.int (nI i), .int (nI 0), .int ((nI d) - (nI 1))]) dX7_put_18 mk_X7_within st_X7_within ml_RX7_68 (by decide) rfl rfl (Nat.le_of_ble_eq_true rfl) (c_within) ?_
  refine x_casti (y := if inl_ (nI i) d then 1 else 0) (by rw [wi_l (by omega)]) ?_
  refine x_if_ne (tgt := 27) dX7_put_21 (by decide) (fun _ => ?_) (fun h => False.elim (ite_ne (inl_n hi (by omega)) h))
  refine x_aload_n dX7_put_27 rfl rfl ?_
  refine x_getf (ci := 6) (kf := 10) dX7_put_28 rfl uX7 (by decide) fl_RX7_19 hO rfl ?_
  refine x_iload_n dX7_put_31 rfl rfl ?_
  refine x_ild (j := i) dX7_put_32 hbu rfl (by omega) (by decide) ?_
  refine x_istore_n (ls' := [some (.ref (138)), some (.int (nI i)), some (.int (z)), some (.int (nI (bu (i))))]) dX7_put_33 rfl (by decide) rfl rfl ?_
  refine x_aload_n dX7_put_34 rfl rfl ?_
  refine x_getf (ci := 6) (kf := 10) dX7_put_35 rfl uX7 (by decide) fl_RX7_19 hO rfl ?_
  refine x_iload_n dX7_put_38 rfl rfl ?_
  refine x_iload_n dX7_put_39 rfl rfl ?_
  refine x_sipush (y := nI 255) dX7_put_40 rfl ?_
  refine x_iand dX7_put_43 ?_
  refine x_casti (y := nI (b255 z)) (and255 z) ?_
  refine x_ist (j := i) (M1 := (M.set (142) (.inl (0, 256, .inl (fun j => nI ((nup bu (i) (b255 z)) j)))))) dX7_put_44 hbu rfl (by omega) (by decide) (by rw [show upd (fun j => nI ((bu) j)) (i) (nI (b255 z)) = (fun j => nI ((nup bu (i) (b255 z)) j)) from nup_eq] <;> exact rfl) ?_
  refine x_iload_n dX7_put_45 rfl rfl ?_
  exact x_ireturn_eq dX7_put_46 rfl rfl
theorem s_l64 : ∀ n, n < 64 → (((nI n).toInt64 &&& 63).toBitVec.smod 64).toNat = n := by decide +kernel
theorem s_byte (x : Int64) {j : Nat} (hj : j ≤ 56) : ((x >>> ((nI j).toInt64 &&& 63)) &&& 255).toInt32 = nI (uN x / 2 ^ j % 256) := by
  rw [uN_i32, uN_and]
  congr 1
  have e : uN 255 = 2 ^ 8 - 1 := by decide +kernel
  rw [e, Nat.and_two_pow_sub_one_eq_mod]
  apply Nat.eq_of_testBit_eq
  intro i
  rw [show (256 : Nat) = 2 ^ 8 from rfl, Nat.testBit_mod_two_pow, Nat.testBit_mod_two_pow]
  by_cases hi : i < 8
  · rw [decide_eq_true hi, Bool.true_and, Bool.true_and, Nat.testBit_div_two_pow]
    show (x >>> ((nI j).toInt64 &&& 63)).toBitVec.toNat.testBit i = x.toBitVec.toNat.testBit (i + j)
    rw [Int64.toBitVec_shiftRight]
    show (x.toBitVec.sshiftRight (((nI j).toInt64 &&& 63).toBitVec.smod 64).toNat).getLsbD i = x.toBitVec.getLsbD (i + j)
    rw [s_l64 j (by omega), BitVec.getLsbD_sshiftRight, if_pos (by omega), Nat.add_comm j i]
    simp; omega
  · rw [decide_eq_false hi]; rfl
def bfl (f : Nat → Nat) (i : Nat) (v : Int64) : Nat → (Nat → Nat)
  | 0 => f
  | j + 1 => nup (bfl f i v j) (i + j) (uN v / 2 ^ (56 - 8 * j) % 256)
theorem lp_mfill {X : Ev} {M0 M M' : Hp} {v : Option Value} {m t d r n tn : Nat} {me ri lt : Int32} (hO : M[138]? = some (.inr (6, [.int (1), .int (nI m), .int (nI t), .int (nI d), .int (nI r), .int (nI n), .int (nI (2 ^ m - 1)), .ref (139), .ref (140), .ref (141), .ref (142), .ref (143), .ref (144), .ref (145), .ref (146), .ref (147), .int (nI tn), .int (me), .int (ri), .int (lt), .ref (148), .ref (149), .ref (150), .ref (151), .ref (152), .ref (153), .ref (154)]))) {bu : Nat → Nat} (hbu : M[142]? = some (.inl (0, 256, .inl (fun j => nI ((bu) j))))) (hd8 : d ≤ 256) {i : Nat} (hi : i < d) {lv : Int64} (k : G X 9 jX7_fill M0 91 [some (.ref (138)), some (.int (nI i)), some (.long (lv)), none, some (.int (nI (min 8 (d - i)))), some (.int (nI ((min 8 (d - i)))))] [] (M.set (142) (.inl (0, 256, .inl (fun j => nI ((bfl bu i lv ((min 8 (d - i)))) j))))) v M') : ∀ (zz jj : Nat), jj + zz = min 8 (d - i) → G X 9 jX7_fill M0 54 [some (.ref (138)), some (.int (nI i)), some (.long (lv)), none, some (.int (nI (min 8 (d - i)))), some (.int (nI (jj)))] [] (M.set (142) (.inl (0, 256, .inl (fun j => nI ((bfl bu i lv (jj)) j))))) v M' := by
  intro zz
  induction zz with
  | zero =>
    intro jj hj
    have hj : jj = min 8 (d - i) := by omega
    subst hj
    refine x_iload dX7_fill_54 rfl ?_
    refine x_iload dX7_fill_56 rfl ?_
    refine x_icmp_ge (tgt := 91) dX7_fill_58 (by decide) (fun _ => ?_) (fun h => False.elim (h (nI_le (Nat.le_refl _) (by omega))))
    exact k
  | succ zz ih =>
    intro jj hj
    refine x_iload dX7_fill_54 rfl ?_
    refine x_iload dX7_fill_56 rfl ?_
    refine x_icmp_ge (tgt := 91) dX7_fill_58 (by decide) (fun h => False.elim (nI_ge (by omega : jj < min 8 (d - i)) (by omega) h)) (fun _ => ?_)
    refine x_aload_n dX7_fill_61 rfl rfl ?_
    refine x_getf (ci := 6) (kf := 10) dX7_fill_62 rfl uX7 (by decide) fl_RX7_19 (gn hO (by decide)) rfl ?_
    refine x_iload_n dX7_fill_65 rfl rfl ?_
    refine x_iload dX7_fill_66 rfl ?_
    refine x_iadd dX7_fill_68 ?_
    refine x_casti (y := nI (i + jj)) (nI_add _ _) ?_
    refine x_lload_n dX7_fill_69 rfl rfl ?_
    refine x_bipush (y := nI 56) dX7_fill_70 rfl ?_
    refine x_bipush (y := nI 8) dX7_fill_72 rfl ?_
    refine x_iload dX7_fill_74 rfl ?_
    refine x_imul dX7_fill_76 ?_
    refine x_casti (y := nI (8 * jj)) (pk_mul _ _) ?_
    refine x_isub dX7_fill_77 ?_
    refine x_casti (y := nI (56 - 8 * jj)) (pk_sub (by omega)) ?_
    refine x_lshr dX7_fill_78 ?_
    refine x_ldc2 (y := (255)) dX7_fill_79 kl_RX7_137 ?_
    refine x_land dX7_fill_82 ?_
    refine x_l2i dX7_fill_83 ?_
    refine x_casti (y := nI (uN lv / 2 ^ (56 - 8 * jj) % 256)) (s_byte _ (by omega)) ?_
    refine x_ist (j := i + jj) (M1 := (M.set (142) (.inl (0, 256, .inl (fun j => nI ((bfl bu i lv (jj + 1)) j)))))) dX7_fill_84 (gs hbu) rfl (by omega) (by decide) (by rw [show upd (fun j => nI ((bfl bu i lv (jj)) j)) (i + jj) (nI (uN lv / 2 ^ (56 - 8 * jj) % 256)) = (fun j => nI ((bfl bu i lv (jj + 1)) j)) from nup_eq] <;> exact (ss0)) ?_
    refine x_iinc (y := nI ((jj) + 1)) (ls' := [some (.ref (138)), some (.int (nI i)), some (.long (lv)), none, some (.int (nI (min 8 (d - i)))), some (.int (nI ((jj) + 1)))]) dX7_fill_85 (by decide) rfl rfl (ii_add _ 1) rfl ?_
    refine x_goto (tgt := 54) dX7_fill_88 (by decide) ?_
    exact ih (jj + 1) (by omega)
theorem c_mfill {X : Ev} {M : Hp} {m t d r n tn : Nat} {me ri lt : Int32} (hO : M[138]? = some (.inr (6, [.int (1), .int (nI m), .int (nI t), .int (nI d), .int (nI r), .int (nI n), .int (nI (2 ^ m - 1)), .ref (139), .ref (140), .ref (141), .ref (142), .ref (143), .ref (144), .ref (145), .ref (146), .ref (147), .int (nI tn), .int (me), .int (ri), .int (lt), .ref (148), .ref (149), .ref (150), .ref (151), .ref (152), .ref (153), .ref (154)]))) {bu : Nat → Nat} (hbu : M[142]? = some (.inl (0, 256, .inl (fun j => nI ((bu) j))))) (hd8 : d ≤ 256) {i : Nat} (hi : i < d) {lv : Int64} : Cl X 9 jX7_fill [.ref (138), .int (nI i), .long (lv)] M (some (.int (nI (min 8 (d - i))))) (M.set (142) (.inl (0, 256, .inl (fun j => nI ((bfl bu i lv ((min 8 (d - i)))) j))))) := by
  refine Cl.of (ls := [some (.ref (138)), some (.int (nI i)), some (.long (lv)), none, none, none]) (by decide) rfl (Nat.le_of_ble_eq_true rfl) ?_
  refine x_aload_n dX7_fill_0 rfl rfl ?_
  refine x_getf (ci := 6) (kf := 0) dX7_fill_1 rfl uX7 (by decide) fl_RX7_100 hO rfl ?_
  refine x_if_ne (tgt := 10) dX7_fill_4 (by decide) (fun _ => ?_) (fun h => False.elim (absurd h (by decide)))
  refine x_iload_n dX7_fill_10 rfl rfl ?_
  refine x_iconst (y := nI 0) dX7_fill_11 rfl ?_
  refine x_aload_n dX7_fill_12 rfl rfl ?_
  refine x_getf (ci := 6) (kf := 3) dX7_fill_13 rfl uX7 (by decide) fl_RX7_107 hO rfl ?_
  refine x_iconst (y := nI 1) dX7_fill_16 rfl ?_
  refine x_isub dX7_fill_17 ?_
  refine x_callS (as := [.int (nI i), .int (nI 0), .int ((nI d) - (nI 1))]) dX7_fill_18 mk_X7_within st_X7_within ml_RX7_68 (by decide) rfl rfl (Nat.le_of_ble_eq_true rfl) (c_within) ?_
  refine x_casti (y := if inl_ (nI i) d then 1 else 0) (by rw [wi_l (by omega)]) ?_
  refine x_if_ne (tgt := 27) dX7_fill_21 (by decide) (fun _ => ?_) (fun h => False.elim (ite_ne (inl_n hi (by omega)) h))
  refine x_aload_n dX7_fill_27 rfl rfl ?_
  refine x_getf (ci := 6) (kf := 3) dX7_fill_28 rfl uX7 (by decide) fl_RX7_107 hO rfl ?_
  refine x_iload_n dX7_fill_31 rfl rfl ?_
  refine x_isub dX7_fill_32 ?_
  refine x_casti (y := nI (d - i)) (pk_sub (by omega)) ?_
  refine x_bipush (y := nI 8) dX7_fill_33 rfl ?_
  refine x_icmp_ge (tgt := 47) dX7_fill_35 (by decide) (fun h35 => ?_) (fun h35 => ?_)
  · refine x_bipush (y := nI 8) dX7_fill_47 rfl ?_
    refine x_casti (y := nI (min 8 (d - i))) (by congr 1; have hz := (nI_leI (by decide) (by omega)).mp h35; omega) ?_
    refine x_istore (ls' := [some (.ref (138)), some (.int (nI i)), some (.long (lv)), none, some (.int (nI (min 8 (d - i)))), none]) dX7_fill_49 (by decide) rfl rfl ?_
    refine x_iconst (y := nI 0) dX7_fill_51 rfl ?_
    refine x_istore (ls' := [some (.ref (138)), some (.int (nI i)), some (.long (lv)), none, some (.int (nI (min 8 (d - i)))), some (.int (nI 0))]) dX7_fill_52 (by decide) rfl rfl ?_
    refine G.hp (set_id hbu (c' := .inl (0, 256, .inl (fun j => nI ((bfl bu i lv (0)) j)))) rfl) (lp_mfill hO hbu hd8 hi ?_ (min 8 (d - i)) 0 (by omega))
    refine x_iload dX7_fill_91 rfl ?_
    exact x_ireturn_eq dX7_fill_93 rfl rfl
  · refine x_aload_n dX7_fill_38 rfl rfl ?_
    refine x_getf (ci := 6) (kf := 3) dX7_fill_39 rfl uX7 (by decide) fl_RX7_107 hO rfl ?_
    refine x_iload_n dX7_fill_42 rfl rfl ?_
    refine x_isub dX7_fill_43 ?_
    refine x_casti (y := nI (min 8 (d - i))) (by rw [pk_sub (by omega)]; congr 1; have hz := (nI_ltI (by omega) (by decide)).mp (Int32.not_le.mp h35); omega) ?_
    refine x_goto (tgt := 49) dX7_fill_44 (by decide) ?_
    refine x_istore (ls' := [some (.ref (138)), some (.int (nI i)), some (.long (lv)), none, some (.int (nI (min 8 (d - i)))), none]) dX7_fill_49 (by decide) rfl rfl ?_
    refine x_iconst (y := nI 0) dX7_fill_51 rfl ?_
    refine x_istore (ls' := [some (.ref (138)), some (.int (nI i)), some (.long (lv)), none, some (.int (nI (min 8 (d - i)))), some (.int (nI 0))]) dX7_fill_52 (by decide) rfl rfl ?_
    refine G.hp (set_id hbu (c' := .inl (0, 256, .inl (fun j => nI ((bfl bu i lv (0)) j)))) rfl) (lp_mfill hO hbu hd8 hi ?_ (min 8 (d - i)) 0 (by omega))
    refine x_iload dX7_fill_91 rfl ?_
    exact x_ireturn_eq dX7_fill_93 rfl rfl
theorem c_mabout0_ {X : Ev} {M : Hp} {m t d r n tn : Nat} {me ri lt : Int32} (hO : M[138]? = some (.inr (6, [.int (1), .int (nI m), .int (nI t), .int (nI d), .int (nI r), .int (nI n), .int (nI (2 ^ m - 1)), .ref (139), .ref (140), .ref (141), .ref (142), .ref (143), .ref (144), .ref (145), .ref (146), .ref (147), .int (nI tn), .int (me), .int (ri), .int (lt), .ref (148), .ref (149), .ref (150), .ref (151), .ref (152), .ref (153), .ref (154)]))) {z : Int32} (hz : z.toInt = 0) : Cl X 9 jX7_about [.ref (138), .int (z)] M (some (.int (nI m))) M := by
  refine Cl.of (ls := [some (.ref (138)), some (.int (z))]) (by decide) rfl (Nat.le_of_ble_eq_true rfl) ?_
  refine x_aload_n dX7_about_0 rfl rfl ?_
  refine x_getf (ci := 6) (kf := 0) dX7_about_1 rfl uX7 (by decide) fl_RX7_100 hO rfl ?_
  refine x_if_ne (tgt := 10) dX7_about_4 (by decide) (fun _ => ?_) (fun h => False.elim (absurd h (by decide)))
  refine x_iload_n dX7_about_10 rfl rfl ?_
  refine x_tabIn (tgt := 56) dX7_about_11 (by omega) (by omega) (by rw [hz]; rfl) (by decide) ?_
  refine x_aload_n dX7_about_56 rfl rfl ?_
  refine x_getf (ci := 6) (kf := 1) dX7_about_57 rfl uX7 (by decide) fl_RX7_86 hO rfl ?_
  exact x_ireturn_eq dX7_about_60 rfl rfl
theorem c_mabout1_ {X : Ev} {M : Hp} {m t d r n tn : Nat} {me ri lt : Int32} (hO : M[138]? = some (.inr (6, [.int (1), .int (nI m), .int (nI t), .int (nI d), .int (nI r), .int (nI n), .int (nI (2 ^ m - 1)), .ref (139), .ref (140), .ref (141), .ref (142), .ref (143), .ref (144), .ref (145), .ref (146), .ref (147), .int (nI tn), .int (me), .int (ri), .int (lt), .ref (148), .ref (149), .ref (150), .ref (151), .ref (152), .ref (153), .ref (154)]))) {z : Int32} (hz : z.toInt = 1) : Cl X 9 jX7_about [.ref (138), .int (z)] M (some (.int (nI t))) M := by
  refine Cl.of (ls := [some (.ref (138)), some (.int (z))]) (by decide) rfl (Nat.le_of_ble_eq_true rfl) ?_
  refine x_aload_n dX7_about_0 rfl rfl ?_
  refine x_getf (ci := 6) (kf := 0) dX7_about_1 rfl uX7 (by decide) fl_RX7_100 hO rfl ?_
  refine x_if_ne (tgt := 10) dX7_about_4 (by decide) (fun _ => ?_) (fun h => False.elim (absurd h (by decide)))
  refine x_iload_n dX7_about_10 rfl rfl ?_
  refine x_tabIn (tgt := 61) dX7_about_11 (by omega) (by omega) (by rw [hz]; rfl) (by decide) ?_
  refine x_aload_n dX7_about_61 rfl rfl ?_
  refine x_getf (ci := 6) (kf := 2) dX7_about_62 rfl uX7 (by decide) fl_RX7_104 hO rfl ?_
  exact x_ireturn_eq dX7_about_65 rfl rfl
theorem c_mabout2_ {X : Ev} {M : Hp} {m t d r n tn : Nat} {me ri lt : Int32} (hO : M[138]? = some (.inr (6, [.int (1), .int (nI m), .int (nI t), .int (nI d), .int (nI r), .int (nI n), .int (nI (2 ^ m - 1)), .ref (139), .ref (140), .ref (141), .ref (142), .ref (143), .ref (144), .ref (145), .ref (146), .ref (147), .int (nI tn), .int (me), .int (ri), .int (lt), .ref (148), .ref (149), .ref (150), .ref (151), .ref (152), .ref (153), .ref (154)]))) {z : Int32} (hz : z.toInt = 2) : Cl X 9 jX7_about [.ref (138), .int (z)] M (some (.int (nI d))) M := by
  refine Cl.of (ls := [some (.ref (138)), some (.int (z))]) (by decide) rfl (Nat.le_of_ble_eq_true rfl) ?_
  refine x_aload_n dX7_about_0 rfl rfl ?_
  refine x_getf (ci := 6) (kf := 0) dX7_about_1 rfl uX7 (by decide) fl_RX7_100 hO rfl ?_
  refine x_if_ne (tgt := 10) dX7_about_4 (by decide) (fun _ => ?_) (fun h => False.elim (absurd h (by decide)))
  refine x_iload_n dX7_about_10 rfl rfl ?_
  refine x_tabIn (tgt := 66) dX7_about_11 (by omega) (by omega) (by rw [hz]; rfl) (by decide) ?_
  refine x_aload_n dX7_about_66 rfl rfl ?_
  refine x_getf (ci := 6) (kf := 3) dX7_about_67 rfl uX7 (by decide) fl_RX7_107 hO rfl ?_
  exact x_ireturn_eq dX7_about_70 rfl rfl
theorem c_mabout3_ {X : Ev} {M : Hp} {m t d r n tn : Nat} {me ri lt : Int32} (hO : M[138]? = some (.inr (6, [.int (1), .int (nI m), .int (nI t), .int (nI d), .int (nI r), .int (nI n), .int (nI (2 ^ m - 1)), .ref (139), .ref (140), .ref (141), .ref (142), .ref (143), .ref (144), .ref (145), .ref (146), .ref (147), .int (nI tn), .int (me), .int (ri), .int (lt), .ref (148), .ref (149), .ref (150), .ref (151), .ref (152), .ref (153), .ref (154)]))) {z : Int32} (hz : z.toInt = 3) : Cl X 9 jX7_about [.ref (138), .int (z)] M (some (.int (nI r))) M := by
  refine Cl.of (ls := [some (.ref (138)), some (.int (z))]) (by decide) rfl (Nat.le_of_ble_eq_true rfl) ?_
  refine x_aload_n dX7_about_0 rfl rfl ?_
  refine x_getf (ci := 6) (kf := 0) dX7_about_1 rfl uX7 (by decide) fl_RX7_100 hO rfl ?_
  refine x_if_ne (tgt := 10) dX7_about_4 (by decide) (fun _ => ?_) (fun h => False.elim (absurd h (by decide)))
  refine x_iload_n dX7_about_10 rfl rfl ?_
  refine x_tabIn (tgt := 71) dX7_about_11 (by omega) (by omega) (by rw [hz]; rfl) (by decide) ?_
  refine x_aload_n dX7_about_71 rfl rfl ?_
  refine x_getf (ci := 6) (kf := 4) dX7_about_72 rfl uX7 (by decide) fl_RX7_110 hO rfl ?_
  exact x_ireturn_eq dX7_about_75 rfl rfl
theorem c_mabout4_ {X : Ev} {M : Hp} {m t d r n tn : Nat} {me ri lt : Int32} (hO : M[138]? = some (.inr (6, [.int (1), .int (nI m), .int (nI t), .int (nI d), .int (nI r), .int (nI n), .int (nI (2 ^ m - 1)), .ref (139), .ref (140), .ref (141), .ref (142), .ref (143), .ref (144), .ref (145), .ref (146), .ref (147), .int (nI tn), .int (me), .int (ri), .int (lt), .ref (148), .ref (149), .ref (150), .ref (151), .ref (152), .ref (153), .ref (154)]))) {z : Int32} (hz : z.toInt = 4) : Cl X 9 jX7_about [.ref (138), .int (z)] M (some (.int (nI n))) M := by
  refine Cl.of (ls := [some (.ref (138)), some (.int (z))]) (by decide) rfl (Nat.le_of_ble_eq_true rfl) ?_
  refine x_aload_n dX7_about_0 rfl rfl ?_
  refine x_getf (ci := 6) (kf := 0) dX7_about_1 rfl uX7 (by decide) fl_RX7_100 hO rfl ?_
  refine x_if_ne (tgt := 10) dX7_about_4 (by decide) (fun _ => ?_) (fun h => False.elim (absurd h (by decide)))
  refine x_iload_n dX7_about_10 rfl rfl ?_
  refine x_tabIn (tgt := 76) dX7_about_11 (by omega) (by omega) (by rw [hz]; rfl) (by decide) ?_
  refine x_aload_n dX7_about_76 rfl rfl ?_
  refine x_getf (ci := 6) (kf := 5) dX7_about_77 rfl uX7 (by decide) fl_RX7_113 hO rfl ?_
  exact x_ireturn_eq dX7_about_80 rfl rfl
theorem c_mabout5_ {X : Ev} {M : Hp} {m t d r n tn : Nat} {me ri lt : Int32} (hO : M[138]? = some (.inr (6, [.int (1), .int (nI m), .int (nI t), .int (nI d), .int (nI r), .int (nI n), .int (nI (2 ^ m - 1)), .ref (139), .ref (140), .ref (141), .ref (142), .ref (143), .ref (144), .ref (145), .ref (146), .ref (147), .int (nI tn), .int (me), .int (ri), .int (lt), .ref (148), .ref (149), .ref (150), .ref (151), .ref (152), .ref (153), .ref (154)]))) {z : Int32} (hz : z.toInt = 5) : Cl X 9 jX7_about [.ref (138), .int (z)] M (some (.int (me))) M := by
  refine Cl.of (ls := [some (.ref (138)), some (.int (z))]) (by decide) rfl (Nat.le_of_ble_eq_true rfl) ?_
  refine x_aload_n dX7_about_0 rfl rfl ?_
  refine x_getf (ci := 6) (kf := 0) dX7_about_1 rfl uX7 (by decide) fl_RX7_100 hO rfl ?_
  refine x_if_ne (tgt := 10) dX7_about_4 (by decide) (fun _ => ?_) (fun h => False.elim (absurd h (by decide)))
  refine x_iload_n dX7_about_10 rfl rfl ?_
  refine x_tabIn (tgt := 81) dX7_about_11 (by omega) (by omega) (by rw [hz]; rfl) (by decide) ?_
  refine x_aload_n dX7_about_81 rfl rfl ?_
  refine x_getf (ci := 6) (kf := 17) dX7_about_82 rfl uX7 (by decide) fl_RX7_119 hO rfl ?_
  exact x_ireturn_eq dX7_about_85 rfl rfl
theorem c_mabout6_ {X : Ev} {M : Hp} {m t d r n tn : Nat} {me ri lt : Int32} (hO : M[138]? = some (.inr (6, [.int (1), .int (nI m), .int (nI t), .int (nI d), .int (nI r), .int (nI n), .int (nI (2 ^ m - 1)), .ref (139), .ref (140), .ref (141), .ref (142), .ref (143), .ref (144), .ref (145), .ref (146), .ref (147), .int (nI tn), .int (me), .int (ri), .int (lt), .ref (148), .ref (149), .ref (150), .ref (151), .ref (152), .ref (153), .ref (154)]))) {z : Int32} (hz : z.toInt = 6) : Cl X 9 jX7_about [.ref (138), .int (z)] M (some (.int (ri))) M := by
  refine Cl.of (ls := [some (.ref (138)), some (.int (z))]) (by decide) rfl (Nat.le_of_ble_eq_true rfl) ?_
  refine x_aload_n dX7_about_0 rfl rfl ?_
  refine x_getf (ci := 6) (kf := 0) dX7_about_1 rfl uX7 (by decide) fl_RX7_100 hO rfl ?_
  refine x_if_ne (tgt := 10) dX7_about_4 (by decide) (fun _ => ?_) (fun h => False.elim (absurd h (by decide)))
  refine x_iload_n dX7_about_10 rfl rfl ?_
  refine x_tabIn (tgt := 86) dX7_about_11 (by omega) (by omega) (by rw [hz]; rfl) (by decide) ?_
  refine x_aload_n dX7_about_86 rfl rfl ?_
  refine x_getf (ci := 6) (kf := 18) dX7_about_87 rfl uX7 (by decide) fl_RX7_122 hO rfl ?_
  exact x_ireturn_eq dX7_about_90 rfl rfl
theorem c_mabout7_ {X : Ev} {M : Hp} {m t d r n tn : Nat} {me ri lt : Int32} (hO : M[138]? = some (.inr (6, [.int (1), .int (nI m), .int (nI t), .int (nI d), .int (nI r), .int (nI n), .int (nI (2 ^ m - 1)), .ref (139), .ref (140), .ref (141), .ref (142), .ref (143), .ref (144), .ref (145), .ref (146), .ref (147), .int (nI tn), .int (me), .int (ri), .int (lt), .ref (148), .ref (149), .ref (150), .ref (151), .ref (152), .ref (153), .ref (154)]))) {z : Int32} (hz : z.toInt = 7) : Cl X 9 jX7_about [.ref (138), .int (z)] M (some (.int (lt))) M := by
  refine Cl.of (ls := [some (.ref (138)), some (.int (z))]) (by decide) rfl (Nat.le_of_ble_eq_true rfl) ?_
  refine x_aload_n dX7_about_0 rfl rfl ?_
  refine x_getf (ci := 6) (kf := 0) dX7_about_1 rfl uX7 (by decide) fl_RX7_100 hO rfl ?_
  refine x_if_ne (tgt := 10) dX7_about_4 (by decide) (fun _ => ?_) (fun h => False.elim (absurd h (by decide)))
  refine x_iload_n dX7_about_10 rfl rfl ?_
  refine x_tabIn (tgt := 91) dX7_about_11 (by omega) (by omega) (by rw [hz]; rfl) (by decide) ?_
  refine x_aload_n dX7_about_91 rfl rfl ?_
  refine x_getf (ci := 6) (kf := 19) dX7_about_92 rfl uX7 (by decide) fl_RX7_125 hO rfl ?_
  exact x_ireturn_eq dX7_about_95 rfl rfl
theorem c_mabout8_ {X : Ev} {M : Hp} {m t d r n tn : Nat} {me ri lt : Int32} (hO : M[138]? = some (.inr (6, [.int (1), .int (nI m), .int (nI t), .int (nI d), .int (nI r), .int (nI n), .int (nI (2 ^ m - 1)), .ref (139), .ref (140), .ref (141), .ref (142), .ref (143), .ref (144), .ref (145), .ref (146), .ref (147), .int (nI tn), .int (me), .int (ri), .int (lt), .ref (148), .ref (149), .ref (150), .ref (151), .ref (152), .ref (153), .ref (154)]))) {z : Int32} (hz : z.toInt < 0 ∨ 7 < z.toInt) : Cl X 9 jX7_about [.ref (138), .int (z)] M (some (.int (-2))) M := by
  refine Cl.of (ls := [some (.ref (138)), some (.int (z))]) (by decide) rfl (Nat.le_of_ble_eq_true rfl) ?_
  refine x_aload_n dX7_about_0 rfl rfl ?_
  refine x_getf (ci := 6) (kf := 0) dX7_about_1 rfl uX7 (by decide) fl_RX7_100 hO rfl ?_
  refine x_if_ne (tgt := 10) dX7_about_4 (by decide) (fun _ => ?_) (fun h => False.elim (absurd h (by decide)))
  refine x_iload_n dX7_about_10 rfl rfl ?_
  refine x_tabOut (tgt := 96) dX7_about_11 (by omega) (by decide) ?_
  refine x_bipush (y := -2) dX7_about_96 rfl ?_
  exact x_ireturn_eq dX7_about_98 rfl rfl
theorem c_mturnedN {X : Ev} {M : Hp} {op : Int32} {m t d r n tn : Nat} {me ri lt : Int32} (hO : M[138]? = some (.inr (6, [.int (op), .int (nI m), .int (nI t), .int (nI d), .int (nI r), .int (nI n), .int (nI (2 ^ m - 1)), .ref (139), .ref (140), .ref (141), .ref (142), .ref (143), .ref (144), .ref (145), .ref (146), .ref (147), .int (nI tn), .int (me), .int (ri), .int (lt), .ref (148), .ref (149), .ref (150), .ref (151), .ref (152), .ref (153), .ref (154)]))) (htn : tn ≤ 2200) {z : Int32} (hz : inl_ z tn = false) : Cl X 9 jX7_turned [.ref (138), .int (z)] M (some (.int (-1))) M := by
  refine Cl.of (ls := [some (.ref (138)), some (.int (z))]) (by decide) rfl (Nat.le_of_ble_eq_true rfl) ?_
  refine x_iload_n dX7_turned_0 rfl rfl ?_
  refine x_iconst (y := nI 0) dX7_turned_1 rfl ?_
  refine x_aload_n dX7_turned_2 rfl rfl ?_
  refine x_getf (ci := 6) (kf := 16) dX7_turned_3 rfl uX7 (by decide) fl_RX7_116 hO rfl ?_
  refine x_iconst (y := nI 1) dX7_turned_6 rfl ?_
  refine x_isub dX7_turned_7 ?_
  refine x_callS (as := [.int (z), .int (nI 0), .int ((nI tn) - (nI 1))]) dX7_turned_8 mk_X7_within st_X7_within ml_RX7_68 (by decide) rfl rfl (Nat.le_of_ble_eq_true rfl) (c_within) ?_
  refine x_casti (y := if inl_ z tn then 1 else 0) (by rw [wi_l (by omega)]) ?_
  refine x_if_eq (tgt := 23) dX7_turned_11 (by decide) (fun _ => ?_) (fun h => False.elim (h (by rw [hz]; rfl)))
  refine x_iconst (y := -1) dX7_turned_23 rfl ?_
  exact x_ireturn_eq dX7_turned_24 rfl rfl
theorem c_mturned {X : Ev} {M : Hp} {op : Int32} {m t d r n tn : Nat} {me ri lt : Int32} (hO : M[138]? = some (.inr (6, [.int (op), .int (nI m), .int (nI t), .int (nI d), .int (nI r), .int (nI n), .int (nI (2 ^ m - 1)), .ref (139), .ref (140), .ref (141), .ref (142), .ref (143), .ref (144), .ref (145), .ref (146), .ref (147), .int (nI tn), .int (me), .int (ri), .int (lt), .ref (148), .ref (149), .ref (150), .ref (151), .ref (152), .ref (153), .ref (154)]))) {tu : Nat → Nat} (htu : M[147]? = some (.inl (0, 2200, .inl (fun j => nI ((tu) j))))) (htn : tn ≤ 2200) {i : Nat} (hi : i < tn) : Cl X 9 jX7_turned [.ref (138), .int (nI i)] M (some (.int (nI (tu i)))) M := by
  refine Cl.of (ls := [some (.ref (138)), some (.int (nI i))]) (by decide) rfl (Nat.le_of_ble_eq_true rfl) ?_
  refine x_iload_n dX7_turned_0 rfl rfl ?_
  refine x_iconst (y := nI 0) dX7_turned_1 rfl ?_
  refine x_aload_n dX7_turned_2 rfl rfl ?_
  refine x_getf (ci := 6) (kf := 16) dX7_turned_3 rfl uX7 (by decide) fl_RX7_116 hO rfl ?_
  refine x_iconst (y := nI 1) dX7_turned_6 rfl ?_
  refine x_isub dX7_turned_7 ?_
  refine x_callS (as := [.int (nI i), .int (nI 0), .int ((nI tn) - (nI 1))]) dX7_turned_8 mk_X7_within st_X7_within ml_RX7_68 (by decide) rfl rfl (Nat.le_of_ble_eq_true rfl) (c_within) ?_
  refine x_casti (y := if inl_ (nI i) tn then 1 else 0) (by rw [wi_l (by omega)]) ?_
  refine x_if_eq (tgt := 23) dX7_turned_11 (by decide) (fun h => False.elim (ite_ne (inl_n hi (by omega)) h)) (fun _ => ?_)
  refine x_aload_n dX7_turned_14 rfl rfl ?_
  refine x_getf (ci := 6) (kf := 15) dX7_turned_15 rfl uX7 (by decide) fl_RX7_36 hO rfl ?_
  refine x_iload_n dX7_turned_18 rfl rfl ?_
  refine x_ild (j := i) dX7_turned_19 htu rfl (by omega) (by decide) ?_
  refine x_goto (tgt := 24) dX7_turned_20 (by decide) ?_
  exact x_ireturn_eq dX7_turned_24 rfl rfl
