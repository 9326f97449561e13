theorem hin0_lay : ∀ w ∈ wsX00, w ∈ wsX0_lay := by decide +kernel
set_option maxHeartbeats 4000000 in
set_option maxRecDepth 100000 in
theorem c0_lay (l : Launch) (D : va_G) (a1 : Int32) (a2 : Int32) : yMet l D 0 yX0_lay wsX0_lay 1 [.int a1, .int a2] (f0_lay a1 a2) := by
  refine yentI (cc := cX0_lay) (nL := 3) (ret := .int) (by decide) rfl (fun _ => Nat.le_of_ble_eq_true rfl) ?_
  intro h0 q1 q2 q3 cA r st2 p e s m args below meth c A Q F hA hret st hf H locs ls w hl
  have F : CallFix p m c cX0_lay 3 s args wsX0_lay RX0 := F
  have hx := F.1
  have hb := F.2.1
  have hl : lv_has ls 3 [(0, .ref h0), (1, .int a1), (2, .int a2)] := hl
  unfold f0_lay at hf
  refine lv_iload_n hx hb dX0_lay_0 rfl (lv_at hl 1 rfl) ?_
  obtain ⟨u_1, hu_1, hf⟩ := y_bd hf
  refine ycallSW (n := 1) (rest := []) F hA (c0_isTrack l a1) gX0_lay_X0_isTrack rfl (by decide +kernel) ⟨Nat.le_of_ble_eq_true rfl, Nat.le_of_ble_eq_true rfl⟩ rfl hl.1 w hu_1 rfl (Nat.le_of_ble_eq_true rfl) ⟨Nat.zero_le _, Nat.zero_le _⟩ dX0_lay_1 (fun H locs w => ?_)
  refine lv_if_eq (tgt := 18) hx hb dX0_lay_4 (by decide) (fun k_2 => ?_) (fun k_2 => ?_)
  · have hf := y_ifp k_2 hf
    refine lv_bipush (v := (-2)) hx hb dX0_lay_18 (by decide) ?_
    exact yret hret hf rfl w dX0_lay_20
  · have hf := y_ifn k_2 hf
    refine lv_iload_n hx hb dX0_lay_7 rfl (lv_at hl 2 rfl) ?_
    refine lv_iconst (v := 1) hx hb dX0_lay_8 (by decide) ?_
    refine lv_icmp_lt (tgt := 18) hx hb dX0_lay_9 (by decide) (fun k_3 => ?_) (fun k_3 => ?_)
    · have hf := y_ifp k_3 hf
      refine lv_bipush (v := (-2)) hx hb dX0_lay_18 (by decide) ?_
      exact yret hret hf rfl w dX0_lay_20
    · have hf := y_ifn k_3 hf
      refine lv_iload_n hx hb dX0_lay_12 rfl (lv_at hl 2 rfl) ?_
      refine lv_bipush (v := 12) hx hb dX0_lay_13 (by decide) ?_
      refine lv_icmp_le (tgt := 21) hx hb dX0_lay_15 (by decide) (fun k_4 => ?_) (fun k_4 => ?_)
      · have hf := y_ifp k_4 hf
        refine lv_aload_n hx hb dX0_lay_21 rfl (lv_at hl 0 rfl) ?_
        refine lv_iload_n hx hb dX0_lay_22 rfl (lv_at hl 1 rfl) ?_
        obtain ⟨u_5, hu_5, hf⟩ := y_bd hf
        refine ycallI (n := 1) (r := u_5.1) (st2 := u_5.2) (rest := []) F hA (c0_isThere l D a1) gX0_lay_X0_isThere rfl (by decide +kernel) rfl ⟨Nat.le_of_ble_eq_true rfl, Nat.le_of_ble_eq_true rfl⟩ rfl hl.1 w hu_5 rfl (Nat.le_of_ble_eq_true rfl) ⟨Nat.zero_le _, Nat.zero_le _⟩ dX0_lay_23 (fun H locs w => ?_)
        refine lv_if_eq (tgt := 31) hx hb dX0_lay_26 (by decide) (fun k_6 => ?_) (fun k_6 => ?_)
        · have hf := y_ifp k_6 hf
          refine lv_aload_n hx hb dX0_lay_31 rfl (lv_at hl 0 rfl) ?_
          refine yget0 F hin0_lay w 0 (by decide) (by decide +kernel) (v := .ref q1) rfl dX0_lay_32 ?_
          refine lv_iload_n hx hb dX0_lay_35 rfl (lv_at hl 1 rfl) ?_
          refine lv_iload_n hx hb dX0_lay_36 rfl (lv_at hl 2 rfl) ?_
          obtain ⟨st_7, hst_7, hf⟩ := y_bd hf
          refine yast0 F w hst_7 dX0_lay_37 (fun H locs w => ?_)
          refine lv_iconst (v := 1) hx hb dX0_lay_38 (by decide) ?_
          exact yret hret hf rfl w dX0_lay_39
        · have hf := y_ifn k_6 hf
          refine lv_iconst (v := 0) hx hb dX0_lay_29 (by decide) ?_
          exact yret hret hf rfl w dX0_lay_30
      · have hf := y_ifn k_4 hf
        refine lv_bipush (v := (-2)) hx hb dX0_lay_18 (by decide) ?_
        exact yret hret hf rfl w dX0_lay_20
theorem hin0_lift : ∀ w ∈ wsX00, w ∈ wsX0_lift := by decide +kernel
set_option maxHeartbeats 4000000 in
set_option maxRecDepth 100000 in
theorem c0_lift (l : Launch) (D : va_G) (a1 : Int32) : yMet l D 0 yX0_lift wsX0_lift 1 [.int a1] (f0_lift a1) := by
  refine yentI (cc := cX0_lift) (nL := 3) (ret := .int) (by decide) rfl (fun _ => Nat.le_of_ble_eq_true rfl) ?_
  intro h0 q1 q2 q3 cA r st2 p e s m args below meth c A Q F hA hret st hf H locs ls w hl
  have F : CallFix p m c cX0_lift 3 s args wsX0_lift RX0 := F
  have hx := F.1
  have hb := F.2.1
  have hl : lv_has ls 3 [(0, .ref h0), (1, .int a1)] := hl
  unfold f0_lift at hf
  refine lv_iload_n hx hb dX0_lift_0 rfl (lv_at hl 1 rfl) ?_
  obtain ⟨u_1, hu_1, hf⟩ := y_bd hf
  refine ycallSW (n := 1) (rest := []) F hA (c0_isTrack l a1) gX0_lift_X0_isTrack rfl (by decide +kernel) ⟨Nat.le_of_ble_eq_true rfl, Nat.le_of_ble_eq_true rfl⟩ rfl hl.1 w hu_1 rfl (Nat.le_of_ble_eq_true rfl) ⟨Nat.zero_le _, Nat.zero_le _⟩ dX0_lift_1 (fun H locs w => ?_)
  refine lv_if_ne (tgt := 10) hx hb dX0_lift_4 (by decide) (fun k_2 => ?_) (fun k_2 => ?_)
  · have hf := y_ifn k_2 hf
    refine lv_aload_n hx hb dX0_lift_10 rfl (lv_at hl 0 rfl) ?_
    refine lv_iload_n hx hb dX0_lift_11 rfl (lv_at hl 1 rfl) ?_
    obtain ⟨u_3, hu_3, hf⟩ := y_bd hf
    refine ycallI (n := 1) (r := u_3.1) (st2 := u_3.2) (rest := []) F hA (c0_isThere l D a1) gX0_lift_X0_isThere rfl (by decide +kernel) rfl ⟨Nat.le_of_ble_eq_true rfl, Nat.le_of_ble_eq_true rfl⟩ rfl hl.1 w hu_3 rfl (Nat.le_of_ble_eq_true rfl) ⟨Nat.zero_le _, Nat.zero_le _⟩ dX0_lift_12 (fun H locs w => ?_)
    refine lv_if_ne (tgt := 21) hx hb dX0_lift_15 (by decide) (fun k_4 => ?_) (fun k_4 => ?_)
    · have hf := y_ifn k_4 hf
      refine lv_aload_n hx hb dX0_lift_21 rfl (lv_at hl 0 rfl) ?_
      refine yget0 F hin0_lift w 1 (by decide) (by decide +kernel) (v := .ref q2) rfl dX0_lift_22 ?_
      refine lv_iload_n hx hb dX0_lift_25 rfl (lv_at hl 1 rfl) ?_
      obtain ⟨x_5, hx_5, hf⟩ := y_bd hf
      refine yald1 F w hx_5 dX0_lift_26 ?_
      refine lv_istore_n (lv' := [(2, .int x_5), (0, .ref h0), (1, .int a1)]) hx hb dX0_lift_27 rfl hl (by decide) rfl (fun ls hl => ?_)
      refine lv_aload_n hx hb dX0_lift_28 rfl (lv_at hl 1 rfl) ?_
      refine yget0 F hin0_lift w 0 (by decide) (by decide +kernel) (v := .ref q1) rfl dX0_lift_29 ?_
      refine lv_iload_n hx hb dX0_lift_32 rfl (lv_at hl 2 rfl) ?_
      refine lv_iconst (v := 0) hx hb dX0_lift_33 (by decide) ?_
      obtain ⟨st_6, hst_6, hf⟩ := y_bd hf
      refine yast0 F w hst_6 dX0_lift_34 (fun H locs w => ?_)
      refine lv_aload_n hx hb dX0_lift_35 rfl (lv_at hl 1 rfl) ?_
      refine yget0 F hin0_lift w 1 (by decide) (by decide +kernel) (v := .ref q2) rfl dX0_lift_36 ?_
      refine lv_iload_n hx hb dX0_lift_39 rfl (lv_at hl 2 rfl) ?_
      refine lv_iconst (v := 0) hx hb dX0_lift_40 (by decide) ?_
      obtain ⟨st_7, hst_7, hf⟩ := y_bd hf
      refine yast1 F w hst_7 dX0_lift_41 (fun H locs w => ?_)
      refine lv_iload_n hx hb dX0_lift_42 rfl (lv_at hl 0 rfl) ?_
      exact yret hret hf rfl w dX0_lift_43
    · have hf := y_ifp k_4 hf
      refine lv_bipush (v := (-3)) hx hb dX0_lift_18 (by decide) ?_
      exact yret hret hf rfl w dX0_lift_20
  · have hf := y_ifp k_2 hf
    refine lv_bipush (v := (-2)) hx hb dX0_lift_7 (by decide) ?_
    exact yret hret hf rfl w dX0_lift_9
set_option maxHeartbeats 4000000 in
set_option maxRecDepth 100000 in
theorem c0_couple (l : Launch) (D : va_G) (a1 : Int32) (a2 : Int32) : yMet l D 0 yX0_couple wsX0_couple 3 [.int a1, .int a2] (f0_couple a1 a2) := by
  refine yentI (cc := cX0_couple) (nL := 3) (ret := .int) (by decide) rfl (fun _ => Nat.le_of_ble_eq_true rfl) ?_
  intro h0 q1 q2 q3 cA r st2 p e s m args below meth c A Q F hA hret st hf H locs ls w hl
  have F : CallFix p m c cX0_couple 3 s args wsX0_couple RX0 := F
  have hx := F.1
  have hb := F.2.1
  have hl : lv_has ls 3 [(0, .ref h0), (1, .int a1), (2, .int a2)] := hl
  unfold f0_couple at hf
  refine lv_iload_n hx hb dX0_couple_0 rfl (lv_at hl 1 rfl) ?_
  obtain ⟨u_1, hu_1, hf⟩ := y_bd hf
  refine ycallSW (n := 1) (rest := []) F hA (c0_isTrack l a1) gX0_couple_X0_isTrack rfl (by decide +kernel) ⟨Nat.le_of_ble_eq_true rfl, Nat.le_of_ble_eq_true rfl⟩ rfl hl.1 w hu_1 rfl (Nat.le_of_ble_eq_true rfl) ⟨Nat.zero_le _, Nat.zero_le _⟩ dX0_couple_1 (fun H locs w => ?_)
  refine lv_if_eq (tgt := 19) hx hb dX0_couple_4 (by decide) (fun k_2 => ?_) (fun k_2 => ?_)
  · have hf := y_ifp k_2 hf
    refine lv_bipush (v := (-2)) hx hb dX0_couple_19 (by decide) ?_
    exact yret hret hf rfl w dX0_couple_21
  · have hf := y_ifn k_2 hf
    refine lv_iload_n hx hb dX0_couple_7 rfl (lv_at hl 2 rfl) ?_
    refine lv_iconst (v := 1) hx hb dX0_couple_8 (by decide) ?_
    refine lv_icmp_lt (tgt := 19) hx hb dX0_couple_9 (by decide) (fun k_3 => ?_) (fun k_3 => ?_)
    · have hf := y_ifp k_3 hf
      refine lv_bipush (v := (-2)) hx hb dX0_couple_19 (by decide) ?_
      exact yret hret hf rfl w dX0_couple_21
    · have hf := y_ifn k_3 hf
      refine lv_iload_n hx hb dX0_couple_12 rfl (lv_at hl 2 rfl) ?_
      refine lv_sipush (v := 999) hx hb dX0_couple_13 (by decide) ?_
      refine lv_icmp_le (tgt := 22) hx hb dX0_couple_16 (by decide) (fun k_4 => ?_) (fun k_4 => ?_)
      · have hf := y_ifp k_4 hf
        refine lv_aload_n hx hb dX0_couple_22 rfl (lv_at hl 0 rfl) ?_
        refine lv_iload_n hx hb dX0_couple_23 rfl (lv_at hl 1 rfl) ?_
        refine lv_iload_n hx hb dX0_couple_24 rfl (lv_at hl 2 rfl) ?_
        obtain ⟨u_5, hu_5, hf⟩ := y_bd hf
        refine ycallI (n := 2) (r := u_5.1) (st2 := u_5.2) (rest := []) F hA (c0_holdAndCome l D a1 a2) gX0_couple_X0_holdAndCome rfl (by decide +kernel) rfl ⟨Nat.le_of_ble_eq_true rfl, Nat.le_of_ble_eq_true rfl⟩ rfl hl.1 w hu_5 rfl (Nat.le_of_ble_eq_true rfl) ⟨Nat.zero_le _, Nat.zero_le _⟩ dX0_couple_25 (fun H locs w => ?_)
        exact yret hret hf rfl w dX0_couple_28
      · have hf := y_ifn k_4 hf
        refine lv_bipush (v := (-2)) hx hb dX0_couple_19 (by decide) ?_
        exact yret hret hf rfl w dX0_couple_21
set_option maxHeartbeats 4000000 in
set_option maxRecDepth 100000 in
theorem c0_uncouple (l : Launch) (D : va_G) (a1 : Int32) : yMet l D 0 yX0_uncouple wsX0_uncouple 2 [.int a1] (f0_uncouple a1) := by
  refine yentI (cc := cX0_uncouple) (nL := 2) (ret := .int) (by decide) rfl (fun _ => Nat.le_of_ble_eq_true rfl) ?_
  intro h0 q1 q2 q3 cA r st2 p e s m args below meth c A Q F hA hret st hf H locs ls w hl
  have F : CallFix p m c cX0_uncouple 2 s args wsX0_uncouple RX0 := F
  have hx := F.1
  have hb := F.2.1
  have hl : lv_has ls 2 [(0, .ref h0), (1, .int a1)] := hl
  unfold f0_uncouple at hf
  refine lv_iload_n hx hb dX0_uncouple_0 rfl (lv_at hl 1 rfl) ?_
  obtain ⟨u_1, hu_1, hf⟩ := y_bd hf
  refine ycallSW (n := 1) (rest := []) F hA (c0_isTrack l a1) gX0_uncouple_X0_isTrack rfl (by decide +kernel) ⟨Nat.le_of_ble_eq_true rfl, Nat.le_of_ble_eq_true rfl⟩ rfl hl.1 w hu_1 rfl (Nat.le_of_ble_eq_true rfl) ⟨Nat.zero_le _, Nat.zero_le _⟩ dX0_uncouple_1 (fun H locs w => ?_)
  refine lv_if_ne (tgt := 10) hx hb dX0_uncouple_4 (by decide) (fun k_2 => ?_) (fun k_2 => ?_)
  · have hf := y_ifn k_2 hf
    refine lv_aload_n hx hb dX0_uncouple_10 rfl (lv_at hl 0 rfl) ?_
    refine lv_iload_n hx hb dX0_uncouple_11 rfl (lv_at hl 1 rfl) ?_
    obtain ⟨u_3, hu_3, hf⟩ := y_bd hf
    refine ycallI (n := 1) (r := u_3.1) (st2 := u_3.2) (rest := []) F hA (c0_hold l D a1) gX0_uncouple_X0_hold rfl (by decide +kernel) rfl ⟨Nat.le_of_ble_eq_true rfl, Nat.le_of_ble_eq_true rfl⟩ rfl hl.1 w hu_3 rfl (Nat.le_of_ble_eq_true rfl) ⟨Nat.zero_le _, Nat.zero_le _⟩ dX0_uncouple_12 (fun H locs w => ?_)
    refine lv_if_ne (tgt := 21) hx hb dX0_uncouple_15 (by decide) (fun k_4 => ?_) (fun k_4 => ?_)
    · have hf := y_ifn k_4 hf
      refine lv_aload_n hx hb dX0_uncouple_21 rfl (lv_at hl 0 rfl) ?_
      refine lv_iconst (v := 1) hx hb dX0_uncouple_22 (by decide) ?_
      refine lv_aload_n hx hb dX0_uncouple_23 rfl (lv_at hl 0 rfl) ?_
      refine lv_iload_n hx hb dX0_uncouple_24 rfl (lv_at hl 1 rfl) ?_
      obtain ⟨u_5, hu_5, hf⟩ := y_bd hf
      refine ycallI (n := 1) (r := u_5.1) (st2 := u_5.2) (rest := [.int 1, .ref h0]) F hA (c0_go l D a1) gX0_uncouple_X0_go rfl (by decide +kernel) rfl ⟨Nat.le_of_ble_eq_true rfl, Nat.le_of_ble_eq_true rfl⟩ rfl hl.1 w hu_5 rfl (Nat.le_of_ble_eq_true rfl) ⟨Nat.zero_le _, Nat.zero_le _⟩ dX0_uncouple_25 (fun H locs w => ?_)
      obtain ⟨u_6, hu_6, hf⟩ := y_bd hf
      refine ycallI (n := 2) (r := u_6.1) (st2 := u_6.2) (rest := []) F hA (c0_letGo l D 1 u_5.1) gX0_uncouple_X0_letGo rfl (by decide +kernel) rfl ⟨Nat.le_of_ble_eq_true rfl, Nat.le_of_ble_eq_true rfl⟩ rfl hl.1 w hu_6 rfl (Nat.le_of_ble_eq_true rfl) ⟨Nat.zero_le _, Nat.zero_le _⟩ dX0_uncouple_28 (fun H locs w => ?_)
      exact yret hret hf rfl w dX0_uncouple_31
    · have hf := y_ifp k_4 hf
      refine lv_bipush (v := (-3)) hx hb dX0_uncouple_18 (by decide) ?_
      exact yret hret hf rfl w dX0_uncouple_20
  · have hf := y_ifp k_2 hf
    refine lv_bipush (v := (-2)) hx hb dX0_uncouple_7 (by decide) ?_
    exact yret hret hf rfl w dX0_uncouple_9
theorem hin0_shunt : ∀ w ∈ wsX00, w ∈ wsX0_shunt := by decide +kernel
set_option maxHeartbeats 4000000 in
set_option maxRecDepth 100000 in
theorem c0_shunt (l : Launch) (D : va_G) (a1 : Int32) (a2 : Int32) (a3 : Int32) : yMet l D 0 yX0_shunt wsX0_shunt 3 [.int a1, .int a2, .int a3] (f0_shunt a1 a2 a3) := by
  refine yentI (cc := cX0_shunt) (nL := 4) (ret := .int) (by decide) rfl (fun _ => Nat.le_of_ble_eq_true rfl) ?_
  intro h0 q1 q2 q3 cA r st2 p e s m args below meth c A Q F hA hret st hf H locs ls w hl
  have F : CallFix p m c cX0_shunt 4 s args wsX0_shunt RX0 := F
  have hx := F.1
  have hb := F.2.1
  have hl : lv_has ls 4 [(0, .ref h0), (1, .int a1), (2, .int a2), (3, .int a3)] := hl
  unfold f0_shunt at hf
  refine lv_iload_n hx hb dX0_shunt_0 rfl (lv_at hl 1 rfl) ?_
  obtain ⟨u_1, hu_1, hf⟩ := y_bd hf
  refine ycallSW (n := 1) (rest := []) F hA (c0_isTrack l a1) gX0_shunt_X0_isTrack rfl (by decide +kernel) ⟨Nat.le_of_ble_eq_true rfl, Nat.le_of_ble_eq_true rfl⟩ rfl hl.1 w hu_1 rfl (Nat.le_of_ble_eq_true rfl) ⟨Nat.zero_le _, Nat.zero_le _⟩ dX0_shunt_1 (fun H locs w => ?_)
  refine lv_if_eq (tgt := 24) hx hb dX0_shunt_4 (by decide) (fun k_2 => ?_) (fun k_2 => ?_)
  · have hf := y_ifp k_2 hf
    refine lv_bipush (v := (-2)) hx hb dX0_shunt_24 (by decide) ?_
    exact yret hret hf rfl w dX0_shunt_26
  · have hf := y_ifn k_2 hf
    refine lv_iload_n hx hb dX0_shunt_7 rfl (lv_at hl 2 rfl) ?_
    obtain ⟨u_3, hu_3, hf⟩ := y_bd hf
    refine ycallSW (n := 1) (rest := []) F hA (c0_isTrack l a2) gX0_shunt_X0_isTrack rfl (by decide +kernel) ⟨Nat.le_of_ble_eq_true rfl, Nat.le_of_ble_eq_true rfl⟩ rfl hl.1 w hu_3 rfl (Nat.le_of_ble_eq_true rfl) ⟨Nat.zero_le _, Nat.zero_le _⟩ dX0_shunt_8 (fun H locs w => ?_)
    refine lv_if_eq (tgt := 24) hx hb dX0_shunt_11 (by decide) (fun k_4 => ?_) (fun k_4 => ?_)
    · have hf := y_ifp k_4 hf
      refine lv_bipush (v := (-2)) hx hb dX0_shunt_24 (by decide) ?_
      exact yret hret hf rfl w dX0_shunt_26
    · have hf := y_ifn k_4 hf
      refine lv_iload_n hx hb dX0_shunt_14 rfl (lv_at hl 3 rfl) ?_
      refine lv_if_lt (tgt := 24) hx hb dX0_shunt_15 (by decide) (fun k_5 => ?_) (fun k_5 => ?_)
      · have hf := y_ifp k_5 hf
        refine lv_bipush (v := (-2)) hx hb dX0_shunt_24 (by decide) ?_
        exact yret hret hf rfl w dX0_shunt_26
      · have hf := y_ifn k_5 hf
        refine lv_iload_n hx hb dX0_shunt_18 rfl (lv_at hl 3 rfl) ?_
        refine lv_bipush (v := 20) hx hb dX0_shunt_19 (by decide) ?_
        refine lv_icmp_le (tgt := 27) hx hb dX0_shunt_21 (by decide) (fun k_6 => ?_) (fun k_6 => ?_)
        · have hf := y_ifp k_6 hf
          refine lv_aload_n hx hb dX0_shunt_27 rfl (lv_at hl 0 rfl) ?_
          refine lv_iconst (v := 0) hx hb dX0_shunt_28 (by decide) ?_
          obtain ⟨st_7, hst_7, hf⟩ := y_bd hf
          refine yput0_8 F hin0_shunt w (by decide +kernel) hst_7 dX0_shunt_29 (fun H locs w => ?_)
          refine lv_aload_n hx hb dX0_shunt_32 rfl (lv_at hl 0 rfl) ?_
          refine lv_iload_n hx hb dX0_shunt_33 rfl (lv_at hl 1 rfl) ?_
          obtain ⟨u_8, hu_8, hf⟩ := y_bd hf
          refine ycallI (n := 1) (r := u_8.1) (st2 := u_8.2) (rest := []) F hA (c0_hold l D a1) gX0_shunt_X0_hold rfl (by decide +kernel) rfl ⟨Nat.le_of_ble_eq_true rfl, Nat.le_of_ble_eq_true rfl⟩ rfl hl.1 w hu_8 rfl (Nat.le_of_ble_eq_true rfl) ⟨Nat.zero_le _, Nat.zero_le _⟩ dX0_shunt_34 (fun H locs w => ?_)
          refine lv_if_ne (tgt := 43) hx hb dX0_shunt_37 (by decide) (fun k_9 => ?_) (fun k_9 => ?_)
          · have hf := y_ifn k_9 hf
            refine lv_aload_n hx hb dX0_shunt_43 rfl (lv_at hl 0 rfl) ?_
            refine lv_iload_n hx hb dX0_shunt_44 rfl (lv_at hl 2 rfl) ?_
            obtain ⟨u_10, hu_10, hf⟩ := y_bd hf
            refine ycallI (n := 1) (r := u_10.1) (st2 := u_10.2) (rest := []) F hA (c0_hold l D a2) gX0_shunt_X0_hold rfl (by decide +kernel) rfl ⟨Nat.le_of_ble_eq_true rfl, Nat.le_of_ble_eq_true rfl⟩ rfl hl.1 w hu_10 rfl (Nat.le_of_ble_eq_true rfl) ⟨Nat.zero_le _, Nat.zero_le _⟩ dX0_shunt_45 (fun H locs w => ?_)
            refine lv_if_ne (tgt := 59) hx hb dX0_shunt_48 (by decide) (fun k_11 => ?_) (fun k_11 => ?_)
            · have hf := y_ifn k_11 hf
              refine lv_aload_n hx hb dX0_shunt_59 rfl (lv_at hl 0 rfl) ?_
              refine lv_iconst (v := 2) hx hb dX0_shunt_60 (by decide) ?_
              refine lv_aload_n hx hb dX0_shunt_61 rfl (lv_at hl 0 rfl) ?_
              refine lv_iload_n hx hb dX0_shunt_62 rfl (lv_at hl 1 rfl) ?_
              refine lv_iload_n hx hb dX0_shunt_63 rfl (lv_at hl 2 rfl) ?_
              refine lv_iload_n hx hb dX0_shunt_64 rfl (lv_at hl 3 rfl) ?_
              obtain ⟨u_12, hu_12, hf⟩ := y_bd hf
              refine ycallI (n := 3) (r := u_12.1) (st2 := u_12.2) (rest := [.int 2, .ref h0]) F hA (c0_moveWagons l D a1 a2 a3) gX0_shunt_X0_moveWagons rfl (by decide +kernel) rfl ⟨Nat.le_of_ble_eq_true rfl, Nat.le_of_ble_eq_true rfl⟩ rfl hl.1 w hu_12 rfl (Nat.le_of_ble_eq_true rfl) ⟨Nat.zero_le _, Nat.zero_le _⟩ dX0_shunt_65 (fun H locs w => ?_)
              obtain ⟨u_13, hu_13, hf⟩ := y_bd hf
              refine ycallI (n := 2) (r := u_13.1) (st2 := u_13.2) (rest := []) F hA (c0_letGo l D 2 u_12.1) gX0_shunt_X0_letGo rfl (by decide +kernel) rfl ⟨Nat.le_of_ble_eq_true rfl, Nat.le_of_ble_eq_true rfl⟩ rfl hl.1 w hu_13 rfl (Nat.le_of_ble_eq_true rfl) ⟨Nat.zero_le _, Nat.zero_le _⟩ dX0_shunt_68 (fun H locs w => ?_)
              exact yret hret hf rfl w dX0_shunt_71
            · have hf := y_ifp k_11 hf
              refine lv_aload_n hx hb dX0_shunt_51 rfl (lv_at hl 0 rfl) ?_
              refine lv_iconst (v := 1) hx hb dX0_shunt_52 (by decide) ?_
              refine lv_bipush (v := (-3)) hx hb dX0_shunt_53 (by decide) ?_
              obtain ⟨u_14, hu_14, hf⟩ := y_bd hf
              refine ycallI (n := 2) (r := u_14.1) (st2 := u_14.2) (rest := []) F hA (c0_letGo l D 1 (-3)) gX0_shunt_X0_letGo rfl (by decide +kernel) rfl ⟨Nat.le_of_ble_eq_true rfl, Nat.le_of_ble_eq_true rfl⟩ rfl hl.1 w hu_14 rfl (Nat.le_of_ble_eq_true rfl) ⟨Nat.zero_le _, Nat.zero_le _⟩ dX0_shunt_55 (fun H locs w => ?_)
              exact yret hret hf rfl w dX0_shunt_58
          · have hf := y_ifp k_9 hf
            refine lv_bipush (v := (-3)) hx hb dX0_shunt_40 (by decide) ?_
            exact yret hret hf rfl w dX0_shunt_42
        · have hf := y_ifn k_6 hf
          refine lv_bipush (v := (-2)) hx hb dX0_shunt_24 (by decide) ?_
          exact yret hret hf rfl w dX0_shunt_26
theorem hin0_sweep : ∀ w ∈ wsX00, w ∈ wsX0_sweep := by decide +kernel
set_option maxHeartbeats 4000000 in
set_option maxRecDepth 100000 in
theorem c0_sweep (l : Launch) (D : va_G) (a1 : Int32) (a2 : Int32) (a3 : Int32) : yMet l D 0 yX0_sweep wsX0_sweep 4 [.int a1, .int a2, .int a3] (f0_sweep a1 a2 a3) := by
  refine yentI (cc := cX0_sweep) (nL := 4) (ret := .int) (by decide) rfl (fun _ => Nat.le_of_ble_eq_true rfl) ?_
  intro h0 q1 q2 q3 cA r st2 p e s m args below meth c A Q F hA hret st hf H locs ls w hl
  have F : CallFix p m c cX0_sweep 4 s args wsX0_sweep RX0 := F
  have hx := F.1
  have hb := F.2.1
  have hl : lv_has ls 4 [(0, .ref h0), (1, .int a1), (2, .int a2), (3, .int a3)] := hl
  unfold f0_sweep at hf
  refine lv_iload_n hx hb dX0_sweep_0 rfl (lv_at hl 1 rfl) ?_
  obtain ⟨u_1, hu_1, hf⟩ := y_bd hf
  refine ycallSW (n := 1) (rest := []) F hA (c0_isTrack l a1) gX0_sweep_X0_isTrack rfl (by decide +kernel) ⟨Nat.le_of_ble_eq_true rfl, Nat.le_of_ble_eq_true rfl⟩ rfl hl.1 w hu_1 rfl (Nat.le_of_ble_eq_true rfl) ⟨Nat.zero_le _, Nat.zero_le _⟩ dX0_sweep_1 (fun H locs w => ?_)
  refine lv_if_eq (tgt := 31) hx hb dX0_sweep_4 (by decide) (fun k_2 => ?_) (fun k_2 => ?_)
  · have hf := y_ifp k_2 hf
    refine lv_bipush (v := (-2)) hx hb dX0_sweep_31 (by decide) ?_
    exact yret hret hf rfl w dX0_sweep_33
  · have hf := y_ifn k_2 hf
    refine lv_iload_n hx hb dX0_sweep_7 rfl (lv_at hl 2 rfl) ?_
    obtain ⟨u_3, hu_3, hf⟩ := y_bd hf
    refine ycallSW (n := 1) (rest := []) F hA (c0_isTrack l a2) gX0_sweep_X0_isTrack rfl (by decide +kernel) ⟨Nat.le_of_ble_eq_true rfl, Nat.le_of_ble_eq_true rfl⟩ rfl hl.1 w hu_3 rfl (Nat.le_of_ble_eq_true rfl) ⟨Nat.zero_le _, Nat.zero_le _⟩ dX0_sweep_8 (fun H locs w => ?_)
    refine lv_if_eq (tgt := 31) hx hb dX0_sweep_11 (by decide) (fun k_4 => ?_) (fun k_4 => ?_)
    · have hf := y_ifp k_4 hf
      refine lv_bipush (v := (-2)) hx hb dX0_sweep_31 (by decide) ?_
      exact yret hret hf rfl w dX0_sweep_33
    · have hf := y_ifn k_4 hf
      refine lv_iload_n hx hb dX0_sweep_14 rfl (lv_at hl 3 rfl) ?_
      obtain ⟨u_5, hu_5, hf⟩ := y_bd hf
      refine ycallSW (n := 1) (rest := []) F hA (c0_isTrack l a3) gX0_sweep_X0_isTrack rfl (by decide +kernel) ⟨Nat.le_of_ble_eq_true rfl, Nat.le_of_ble_eq_true rfl⟩ rfl hl.1 w hu_5 rfl (Nat.le_of_ble_eq_true rfl) ⟨Nat.zero_le _, Nat.zero_le _⟩ dX0_sweep_15 (fun H locs w => ?_)
      refine lv_if_eq (tgt := 31) hx hb dX0_sweep_18 (by decide) (fun k_6 => ?_) (fun k_6 => ?_)
      · have hf := y_ifp k_6 hf
        refine lv_bipush (v := (-2)) hx hb dX0_sweep_31 (by decide) ?_
        exact yret hret hf rfl w dX0_sweep_33
      · have hf := y_ifn k_6 hf
        refine lv_iload_n hx hb dX0_sweep_21 rfl (lv_at hl 1 rfl) ?_
        refine lv_iload_n hx hb dX0_sweep_22 rfl (lv_at hl 2 rfl) ?_
        refine lv_icmp_eq (tgt := 31) hx hb dX0_sweep_23 (by decide) (fun k_7 => ?_) (fun k_7 => ?_)
        · have hf := y_ifp k_7 hf
          refine lv_bipush (v := (-2)) hx hb dX0_sweep_31 (by decide) ?_
          exact yret hret hf rfl w dX0_sweep_33
        · have hf := y_ifn k_7 hf
          refine lv_iload_n hx hb dX0_sweep_26 rfl (lv_at hl 1 rfl) ?_
          refine lv_iload_n hx hb dX0_sweep_27 rfl (lv_at hl 3 rfl) ?_
          refine lv_icmp_ne (tgt := 34) hx hb dX0_sweep_28 (by decide) (fun k_8 => ?_) (fun k_8 => ?_)
          · have hf := y_ifn k_8 hf
            refine lv_aload_n hx hb dX0_sweep_34 rfl (lv_at hl 0 rfl) ?_
            refine lv_iconst (v := 0) hx hb dX0_sweep_35 (by decide) ?_
            obtain ⟨st_9, hst_9, hf⟩ := y_bd hf
            refine yput0_8 F hin0_sweep w (by decide +kernel) hst_9 dX0_sweep_36 (fun H locs w => ?_)
            refine lv_aload_n hx hb dX0_sweep_39 rfl (lv_at hl 0 rfl) ?_
            refine lv_iload_n hx hb dX0_sweep_40 rfl (lv_at hl 1 rfl) ?_
            obtain ⟨u_10, hu_10, hf⟩ := y_bd hf
            refine ycallI (n := 1) (r := u_10.1) (st2 := u_10.2) (rest := []) F hA (c0_hold l D a1) gX0_sweep_X0_hold rfl (by decide +kernel) rfl ⟨Nat.le_of_ble_eq_true rfl, Nat.le_of_ble_eq_true rfl⟩ rfl hl.1 w hu_10 rfl (Nat.le_of_ble_eq_true rfl) ⟨Nat.zero_le _, Nat.zero_le _⟩ dX0_sweep_41 (fun H locs w => ?_)
            refine lv_if_ne (tgt := 50) hx hb dX0_sweep_44 (by decide) (fun k_11 => ?_) (fun k_11 => ?_)
            · have hf := y_ifn k_11 hf
              refine lv_aload_n hx hb dX0_sweep_50 rfl (lv_at hl 0 rfl) ?_
              refine lv_iconst (v := 1) hx hb dX0_sweep_51 (by decide) ?_
              refine lv_aload_n hx hb dX0_sweep_52 rfl (lv_at hl 0 rfl) ?_
              refine lv_iload_n hx hb dX0_sweep_53 rfl (lv_at hl 1 rfl) ?_
              refine lv_iload_n hx hb dX0_sweep_54 rfl (lv_at hl 2 rfl) ?_
              refine lv_iload_n hx hb dX0_sweep_55 rfl (lv_at hl 3 rfl) ?_
              obtain ⟨u_12, hu_12, hf⟩ := y_bd hf
              refine ycallI (n := 3) (r := u_12.1) (st2 := u_12.2) (rest := [.int 1, .ref h0]) F hA (c0_sortWagons l D a1 a2 a3) gX0_sweep_X0_sortWagons rfl (by decide +kernel) rfl ⟨Nat.le_of_ble_eq_true rfl, Nat.le_of_ble_eq_true rfl⟩ rfl hl.1 w hu_12 rfl (Nat.le_of_ble_eq_true rfl) ⟨Nat.zero_le _, Nat.zero_le _⟩ dX0_sweep_56 (fun H locs w => ?_)
              obtain ⟨u_13, hu_13, hf⟩ := y_bd hf
              refine ycallI (n := 2) (r := u_13.1) (st2 := u_13.2) (rest := []) F hA (c0_letGo l D 1 u_12.1) gX0_sweep_X0_letGo rfl (by decide +kernel) rfl ⟨Nat.le_of_ble_eq_true rfl, Nat.le_of_ble_eq_true rfl⟩ rfl hl.1 w hu_13 rfl (Nat.le_of_ble_eq_true rfl) ⟨Nat.zero_le _, Nat.zero_le _⟩ dX0_sweep_59 (fun H locs w => ?_)
              exact yret hret hf rfl w dX0_sweep_62
            · have hf := y_ifp k_11 hf
              refine lv_bipush (v := (-3)) hx hb dX0_sweep_47 (by decide) ?_
              exact yret hret hf rfl w dX0_sweep_49
          · have hf := y_ifp k_8 hf
            refine lv_bipush (v := (-2)) hx hb dX0_sweep_31 (by decide) ?_
            exact yret hret hf rfl w dX0_sweep_33
theorem hin0_tour : ∀ w ∈ wsX00, w ∈ wsX0_tour := by decide +kernel
set_option maxHeartbeats 4000000 in
set_option maxRecDepth 100000 in
theorem b0_tour_L21 {l : Launch} {D : va_G} {h0 q1 q2 q3 : Nat} {cA : ClassId} {r : Int32} {st2 : St} {p : Program} {e : Env} {s : State} {m : MethodId} {args : Array Value} {below : List Frame} {meth : Method} {c : Code} {A : Nat → Prop} {Q : State → Prop} (F : CallFix p m c cX0_tour 8 s args wsX0_tour RX0) (hA : ∀ q, s.heap.size ≤ q → A q) (hret : yRetI D 0 h0 q1 q2 q3 cA p l e 3 s m args below meth c cX0_tour A Q .int r st2) : ∀ (n : Nat) (v1 : Int64) (v3 : Int32) (v4 : Int32) (v5 : Int32) (st : St), f0_tour_L21 n v1 v3 v4 v5 st = some (r, st2) → ∀ (H : Heap) (locs : List Loc) (ls : Array Slot), Wd D 0 h0 q1 q2 q3 cA A s st H locs → lv_has ls 8 [(0, .ref h0), (1, .long v1), (3, .int v3), (4, .int v4), (5, .int v5)] → W p l e (yrm 3) s m args below meth c H locs 0 0 Q (F0 m 21 ls []) := by
  have hx := F.1
  have hb := F.2.1
  intro n
  induction n with
  | zero =>
    intro v1 v3 v4 v5 st hf
    rw [f0_tour_L21] at hf
    cases hf
  | succ n ih =>
    intro v1 v3 v4 v5 st hf H locs ls w hl
    rw [f0_tour_L21] at hf
    refine lv_iload hx hb dX0_tour_21 (lv_at hl 4 rfl) ?_
    refine lv_iload_n hx hb dX0_tour_23 rfl (lv_at hl 2 rfl) ?_
    refine lv_icmp_ge (tgt := 101) hx hb dX0_tour_24 (by decide) (fun k_4 => ?_) (fun k_4 => ?_)
    · have hf := y_ifp k_4 hf
      refine lv_iload hx hb dX0_tour_101 (lv_at hl 3 rfl) ?_
      exact yret hret hf rfl w dX0_tour_103
    · have hf := y_ifn k_4 hf
      refine lv_lload_n hx hb dX0_tour_27 rfl (lv_at hl 1 rfl) ?_
      refine lv_iload hx hb dX0_tour_28 (lv_at hl 4 rfl) ?_
      obtain ⟨u_5, hu_5, hf⟩ := y_bd hf
      refine ycallSW (n := 2) (rest := []) F hA (c0_trackOfRow l v1 v5) gX0_tour_X0_trackOfRow rfl (by decide +kernel) ⟨Nat.le_of_ble_eq_true rfl, Nat.le_of_ble_eq_true rfl⟩ rfl hl.1 w hu_5 rfl (Nat.le_of_ble_eq_true rfl) ⟨Nat.zero_le _, Nat.zero_le _⟩ dX0_tour_30 (fun H locs w => ?_)
      refine lv_istore (lv' := [(6, .int u_5), (0, .ref h0), (1, .long v1), (3, .int v3), (4, .int v4), (5, .int v5)]) hx hb dX0_tour_33 hl (by decide) rfl (fun ls hl => ?_)
      refine lv_aload_n hx hb dX0_tour_35 rfl (lv_at hl 1 rfl) ?_
      refine lv_iload hx hb dX0_tour_36 (lv_at hl 0 rfl) ?_
      obtain ⟨u_6, hu_6, hf⟩ := y_bd hf
      refine ycallI (n := 1) (r := u_6.1) (st2 := u_6.2) (rest := []) F hA (c0_hold l D u_5) gX0_tour_X0_hold rfl (by decide +kernel) rfl ⟨Nat.le_of_ble_eq_true rfl, Nat.le_of_ble_eq_true rfl⟩ rfl hl.1 w hu_6 rfl (Nat.le_of_ble_eq_true rfl) ⟨Nat.zero_le _, Nat.zero_le _⟩ dX0_tour_38 (fun H locs w => ?_)
      refine lv_if_ne (tgt := 47) hx hb dX0_tour_41 (by decide) (fun k_7 => ?_) (fun k_7 => ?_)
      · have hf := y_ifn k_7 hf
        refine lv_aload_n hx hb dX0_tour_47 rfl (lv_at hl 1 rfl) ?_
        refine yget0 F hin0_tour w 1 (by decide) (by decide +kernel) (v := .ref q2) rfl dX0_tour_48 ?_
        refine lv_iload hx hb dX0_tour_51 (lv_at hl 0 rfl) ?_
        obtain ⟨x_8, hx_8, hf⟩ := y_bd hf
        refine yald1 F w hx_8 dX0_tour_53 ?_
        refine lv_if_ne (tgt := 61) hx hb dX0_tour_54 (by decide) (fun k_9 => ?_) (fun k_9 => ?_)
        · have hf := y_ifn k_9 hf
          refine lv_iconst (v := 0) hx hb dX0_tour_61 (by decide) ?_
          refine lv_istore (lv' := [(7, .int 0), (6, .int u_5), (0, .ref h0), (1, .long v1), (3, .int v3), (4, .int v4), (5, .int v5)]) hx hb dX0_tour_62 hl (by decide) rfl (fun ls hl => ?_)
          refine lv_iload hx hb dX0_tour_64 (lv_at hl 0 rfl) ?_
          refine lv_if_ne (tgt := 80) hx hb dX0_tour_66 (by decide) (fun k_10 => ?_) (fun k_10 => ?_)
          · exact absurd k_10 (by decide)
          · refine lv_iload hx hb dX0_tour_69 (lv_at hl 5 rfl) ?_
            refine lv_aload_n hx hb dX0_tour_71 rfl (lv_at hl 2 rfl) ?_
            refine lv_iload hx hb dX0_tour_72 (lv_at hl 1 rfl) ?_
            obtain ⟨u_11, hu_11, hf⟩ := y_bd hf
            refine ycallI (n := 1) (r := u_11.1) (st2 := u_11.2) (rest := [.int v4]) F hA (c0_takeOnTour l D u_5) gX0_tour_X0_takeOnTour rfl (by decide +kernel) rfl ⟨Nat.le_of_ble_eq_true rfl, Nat.le_of_ble_eq_true rfl⟩ rfl hl.1 w hu_11 rfl (Nat.le_of_ble_eq_true rfl) ⟨Nat.zero_le _, Nat.zero_le _⟩ dX0_tour_74 (fun H locs w => ?_)
            refine lv_iadd hx hb dX0_tour_77 ?_
            refine lv_istore (lv' := [(4, .int (v4 + u_11.1)), (7, .int 0), (6, .int u_5), (0, .ref h0), (1, .long v1), (3, .int v3), (5, .int v5)]) hx hb dX0_tour_78 hl (by decide) rfl (fun ls hl => ?_)
            refine lv_aload_n hx hb dX0_tour_80 rfl (lv_at hl 3 rfl) ?_
            refine lv_iconst (v := 1) hx hb dX0_tour_81 (by decide) ?_
            refine lv_iconst (v := 0) hx hb dX0_tour_82 (by decide) ?_
            obtain ⟨u_12, hu_12, hf⟩ := y_bd hf
            refine ycallI (n := 2) (r := u_12.1) (st2 := u_12.2) (rest := []) F hA (c0_letGo l D 1 0) gX0_tour_X0_letGo rfl (by decide +kernel) rfl ⟨Nat.le_of_ble_eq_true rfl, Nat.le_of_ble_eq_true rfl⟩ rfl hl.1 w hu_12 rfl (Nat.le_of_ble_eq_true rfl) ⟨Nat.zero_le _, Nat.zero_le _⟩ dX0_tour_83 (fun H locs w => ?_)
            refine lv_pop hx hb dX0_tour_86 rfl ?_
            refine lv_iload hx hb dX0_tour_87 (lv_at hl 1 rfl) ?_
            refine lv_if_eq (tgt := 95) hx hb dX0_tour_89 (by decide) (fun k_13 => ?_) (fun k_13 => ?_)
            · refine lv_iinc (v := v5 + 1) (lv' := [(5, .int (v5 + 1)), (4, .int (v4 + u_11.1)), (7, .int 0), (6, .int u_5), (0, .ref h0), (1, .long v1), (3, .int v3)]) hx hb dX0_tour_95 hl (k := 6) rfl rfl (by decide) rfl (fun ls hl => ?_)
              refine lv_goto (tgt := 21) hx hb dX0_tour_98 (by decide) ?_
              exact ih v1 v3 (v4 + u_11.1) (v5 + 1) u_12.2 hf _ _ _ w (lv_sub hl [4, 5, 6, 1, 0] rfl)
            · exact absurd k_13 (by decide)
        · have hf := y_ifp k_9 hf
          refine lv_iconst (v := 1) hx hb dX0_tour_57 (by decide) ?_
          refine lv_goto (tgt := 62) hx hb dX0_tour_58 (by decide) ?_
          refine lv_istore (lv' := [(7, .int 1), (6, .int u_5), (0, .ref h0), (1, .long v1), (3, .int v3), (4, .int v4), (5, .int v5)]) hx hb dX0_tour_62 hl (by decide) rfl (fun ls hl => ?_)
          refine lv_iload hx hb dX0_tour_64 (lv_at hl 0 rfl) ?_
          refine lv_if_ne (tgt := 80) hx hb dX0_tour_66 (by decide) (fun k_14 => ?_) (fun k_14 => ?_)
          · refine lv_aload_n hx hb dX0_tour_80 rfl (lv_at hl 2 rfl) ?_
            refine lv_iconst (v := 1) hx hb dX0_tour_81 (by decide) ?_
            refine lv_iconst (v := 0) hx hb dX0_tour_82 (by decide) ?_
            obtain ⟨u_15, hu_15, hf⟩ := y_bd hf
            refine ycallI (n := 2) (r := u_15.1) (st2 := u_15.2) (rest := []) F hA (c0_letGo l D 1 0) gX0_tour_X0_letGo rfl (by decide +kernel) rfl ⟨Nat.le_of_ble_eq_true rfl, Nat.le_of_ble_eq_true rfl⟩ rfl hl.1 w hu_15 rfl (Nat.le_of_ble_eq_true rfl) ⟨Nat.zero_le _, Nat.zero_le _⟩ dX0_tour_83 (fun H locs w => ?_)
            refine lv_pop hx hb dX0_tour_86 rfl ?_
            refine lv_iload hx hb dX0_tour_87 (lv_at hl 0 rfl) ?_
            refine lv_if_eq (tgt := 95) hx hb dX0_tour_89 (by decide) (fun k_16 => ?_) (fun k_16 => ?_)
            · exact absurd k_16 (by decide)
            · refine lv_goto (tgt := 101) hx hb dX0_tour_92 (by decide) ?_
              refine lv_iload hx hb dX0_tour_101 (lv_at hl 5 rfl) ?_
              exact yret hret hf rfl w dX0_tour_103
          · exact absurd k_14 (by decide)
      · have hf := y_ifp k_7 hf
        refine lv_bipush (v := (-3)) hx hb dX0_tour_44 (by decide) ?_
        exact yret hret hf rfl w dX0_tour_46
set_option maxHeartbeats 4000000 in
set_option maxRecDepth 100000 in
theorem c0_tour (l : Launch) (D : va_G) (a1 : Int64) (a3 : Int32) : yMet l D 0 yX0_tour wsX0_tour 3 [.long a1, .int a3] (f0_tour a1 a3) := by
  refine yentI (cc := cX0_tour) (nL := 8) (ret := .int) (by decide) rfl (fun _ => Nat.le_of_ble_eq_true rfl) ?_
  intro h0 q1 q2 q3 cA r st2 p e s m args below meth c A Q F hA hret st hf H locs ls w hl
  have F : CallFix p m c cX0_tour 8 s args wsX0_tour RX0 := F
  have hx := F.1
  have hb := F.2.1
  have hl : lv_has ls 8 [(0, .ref h0), (1, .long a1), (3, .int a3)] := hl
  unfold f0_tour at hf
  refine lv_iload_n hx hb dX0_tour_0 rfl (lv_at hl 2 rfl) ?_
  obtain ⟨u_1, hu_1, hf⟩ := y_bd hf
  refine ycallSW (n := 1) (rest := []) F hA (c0_isRowLength l a3) gX0_tour_X0_isRowLength rfl (by decide +kernel) ⟨Nat.le_of_ble_eq_true rfl, Nat.le_of_ble_eq_true rfl⟩ rfl hl.1 w hu_1 rfl (Nat.le_of_ble_eq_true rfl) ⟨Nat.zero_le _, Nat.zero_le _⟩ dX0_tour_1 (fun H locs w => ?_)
  refine lv_if_ne (tgt := 10) hx hb dX0_tour_4 (by decide) (fun k_2 => ?_) (fun k_2 => ?_)
  · have hf := y_ifn k_2 hf
    refine lv_aload_n hx hb dX0_tour_10 rfl (lv_at hl 0 rfl) ?_
    refine lv_iconst (v := 0) hx hb dX0_tour_11 (by decide) ?_
    obtain ⟨st_3, hst_3, hf⟩ := y_bd hf
    refine yput0_8 F hin0_tour w (by decide +kernel) hst_3 dX0_tour_12 (fun H locs w => ?_)
    refine lv_iconst (v := 0) hx hb dX0_tour_15 (by decide) ?_
    refine lv_istore (lv' := [(4, .int 0), (0, .ref h0), (1, .long a1), (3, .int a3)]) hx hb dX0_tour_16 hl (by decide) rfl (fun ls hl => ?_)
    refine lv_iconst (v := 0) hx hb dX0_tour_18 (by decide) ?_
    refine lv_istore (lv' := [(5, .int 0), (4, .int 0), (0, .ref h0), (1, .long a1), (3, .int a3)]) hx hb dX0_tour_19 hl (by decide) rfl (fun ls hl => ?_)
    exact b0_tour_L21 F hA hret 40 a1 a3 0 0 st_3 hf _ _ _ w (lv_sub hl [2, 3, 4, 1, 0] rfl)
  · have hf := y_ifp k_2 hf
    refine lv_bipush (v := (-2)) hx hb dX0_tour_7 (by decide) ?_
    exact yret hret hf rfl w dX0_tour_9
theorem hin0_chain : ∀ w ∈ wsX00, w ∈ wsX0_chain := by decide +kernel
set_option maxHeartbeats 4000000 in
set_option maxRecDepth 100000 in
theorem b0_chain_L16 {l : Launch} {D : va_G} {h0 q1 q2 q3 : Nat} {cA : ClassId} {r : Int32} {st2 : St} {p : Program} {e : Env} {s : State} {m : MethodId} {args : Array Value} {below : List Frame} {meth : Method} {c : Code} {A : Nat → Prop} {Q : State → Prop} (F : CallFix p m c cX0_chain 7 s args wsX0_chain RX0) (hA : ∀ q, s.heap.size ≤ q → A q) (hret : yRetI D 0 h0 q1 q2 q3 cA p l e 2 s m args below meth c cX0_chain A Q .int r st2) : ∀ (n : Nat) (v1 : Int64) (v3 : Int32) (v4 : Int32) (v5 : Int32) (st : St), f0_chain_L16 n v1 v3 v4 v5 st = some (r, st2) → ∀ (H : Heap) (locs : List Loc) (ls : Array Slot), Wd D 0 h0 q1 q2 q3 cA A s st H locs → lv_has ls 7 [(0, .ref h0), (1, .long v1), (3, .int v3), (4, .int v4), (5, .int v5)] → W p l e (yrm 2) s m args below meth c H locs 0 0 Q (F0 m 16 ls []) := by
  have hx := F.1
  have hb := F.2.1
  intro n
  induction n with
  | zero =>
    intro v1 v3 v4 v5 st hf
    rw [f0_chain_L16] at hf
    cases hf
  | succ n ih =>
    intro v1 v3 v4 v5 st hf H locs ls w hl
    rw [f0_chain_L16] at hf
    refine lv_iload hx hb dX0_chain_16 (lv_at hl 4 rfl) ?_
    refine lv_iload_n hx hb dX0_chain_18 rfl (lv_at hl 2 rfl) ?_
    refine lv_icmp_ge (tgt := 66) hx hb dX0_chain_19 (by decide) (fun k_3 => ?_) (fun k_3 => ?_)
    · have hf := y_ifp k_3 hf
      refine lv_aload_n hx hb dX0_chain_66 rfl (lv_at hl 0 rfl) ?_
      refine lv_iload_n hx hb dX0_chain_67 rfl (lv_at hl 2 rfl) ?_
      refine lv_iload hx hb dX0_chain_68 (lv_at hl 3 rfl) ?_
      obtain ⟨u_4, hu_4, hf⟩ := y_bd hf
      refine ycallI (n := 2) (r := u_4.1) (st2 := u_4.2) (rest := []) F hA (c0_letGo l D v3 v4) gX0_chain_X0_letGo rfl (by decide +kernel) rfl ⟨Nat.le_of_ble_eq_true rfl, Nat.le_of_ble_eq_true rfl⟩ rfl hl.1 w hu_4 rfl (Nat.le_of_ble_eq_true rfl) ⟨Nat.zero_le _, Nat.zero_le _⟩ dX0_chain_70 (fun H locs w => ?_)
      exact yret hret hf rfl w dX0_chain_73
    · have hf := y_ifn k_3 hf
      refine lv_lload_n hx hb dX0_chain_22 rfl (lv_at hl 1 rfl) ?_
      refine lv_iload hx hb dX0_chain_23 (lv_at hl 4 rfl) ?_
      obtain ⟨u_5, hu_5, hf⟩ := y_bd hf
      refine ycallSW (n := 2) (rest := []) F hA (c0_trackOfRow l v1 v5) gX0_chain_X0_trackOfRow rfl (by decide +kernel) ⟨Nat.le_of_ble_eq_true rfl, Nat.le_of_ble_eq_true rfl⟩ rfl hl.1 w hu_5 rfl (Nat.le_of_ble_eq_true rfl) ⟨Nat.zero_le _, Nat.zero_le _⟩ dX0_chain_25 (fun H locs w => ?_)
      refine lv_istore (lv' := [(6, .int u_5), (0, .ref h0), (1, .long v1), (3, .int v3), (4, .int v4), (5, .int v5)]) hx hb dX0_chain_28 hl (by decide) rfl (fun ls hl => ?_)
      refine lv_aload_n hx hb dX0_chain_30 rfl (lv_at hl 1 rfl) ?_
      refine lv_iload hx hb dX0_chain_31 (lv_at hl 0 rfl) ?_
      obtain ⟨u_6, hu_6, hf⟩ := y_bd hf
      refine ycallI (n := 1) (r := u_6.1) (st2 := u_6.2) (rest := []) F hA (c0_hold l D u_5) gX0_chain_X0_hold rfl (by decide +kernel) rfl ⟨Nat.le_of_ble_eq_true rfl, Nat.le_of_ble_eq_true rfl⟩ rfl hl.1 w hu_6 rfl (Nat.le_of_ble_eq_true rfl) ⟨Nat.zero_le _, Nat.zero_le _⟩ dX0_chain_33 (fun H locs w => ?_)
      refine lv_if_ne (tgt := 48) hx hb dX0_chain_36 (by decide) (fun k_7 => ?_) (fun k_7 => ?_)
      · have hf := y_ifn k_7 hf
        refine lv_iload hx hb dX0_chain_48 (lv_at hl 4 rfl) ?_
        refine lv_aload_n hx hb dX0_chain_50 rfl (lv_at hl 1 rfl) ?_
        refine yget0 F hin0_chain w 1 (by decide) (by decide +kernel) (v := .ref q2) rfl dX0_chain_51 ?_
        refine lv_iload hx hb dX0_chain_54 (lv_at hl 0 rfl) ?_
        obtain ⟨x_8, hx_8, hf⟩ := y_bd hf
        refine yald1 F w hx_8 dX0_chain_56 ?_
        refine lv_iadd hx hb dX0_chain_57 ?_
        refine lv_istore (lv' := [(4, .int (v4 + x_8)), (6, .int u_5), (0, .ref h0), (1, .long v1), (3, .int v3), (5, .int v5)]) hx hb dX0_chain_58 hl (by decide) rfl (fun ls hl => ?_)
        refine lv_iinc (v := v5 + 1) (lv' := [(5, .int (v5 + 1)), (4, .int (v4 + x_8)), (6, .int u_5), (0, .ref h0), (1, .long v1), (3, .int v3)]) hx hb dX0_chain_60 hl (k := 5) rfl rfl (by decide) rfl (fun ls hl => ?_)
        refine lv_goto (tgt := 16) hx hb dX0_chain_63 (by decide) ?_
        exact ih v1 v3 (v4 + x_8) (v5 + 1) u_6.2 hf _ _ _ w (lv_sub hl [3, 4, 5, 1, 0] rfl)
      · have hf := y_ifp k_7 hf
        refine lv_aload_n hx hb dX0_chain_39 rfl (lv_at hl 1 rfl) ?_
        refine lv_iload hx hb dX0_chain_40 (lv_at hl 5 rfl) ?_
        refine lv_bipush (v := (-3)) hx hb dX0_chain_42 (by decide) ?_
        obtain ⟨u_9, hu_9, hf⟩ := y_bd hf
        refine ycallI (n := 2) (r := u_9.1) (st2 := u_9.2) (rest := []) F hA (c0_letGo l D v5 (-3)) gX0_chain_X0_letGo rfl (by decide +kernel) rfl ⟨Nat.le_of_ble_eq_true rfl, Nat.le_of_ble_eq_true rfl⟩ rfl hl.1 w hu_9 rfl (Nat.le_of_ble_eq_true rfl) ⟨Nat.zero_le _, Nat.zero_le _⟩ dX0_chain_44 (fun H locs w => ?_)
        exact yret hret hf rfl w dX0_chain_47
set_option maxHeartbeats 4000000 in
set_option maxRecDepth 100000 in
theorem c0_chain (l : Launch) (D : va_G) (a1 : Int64) (a3 : Int32) : yMet l D 0 yX0_chain wsX0_chain 2 [.long a1, .int a3] (f0_chain a1 a3) := by
  refine yentI (cc := cX0_chain) (nL := 7) (ret := .int) (by decide) rfl (fun _ => Nat.le_of_ble_eq_true rfl) ?_
  intro h0 q1 q2 q3 cA r st2 p e s m args below meth c A Q F hA hret st hf H locs ls w hl
  have F : CallFix p m c cX0_chain 7 s args wsX0_chain RX0 := F
  have hx := F.1
  have hb := F.2.1
  have hl : lv_has ls 7 [(0, .ref h0), (1, .long a1), (3, .int a3)] := hl
  unfold f0_chain at hf
  refine lv_iload_n hx hb dX0_chain_0 rfl (lv_at hl 2 rfl) ?_
  obtain ⟨u_1, hu_1, hf⟩ := y_bd hf
  refine ycallSW (n := 1) (rest := []) F hA (c0_isRowLength l a3) gX0_chain_X0_isRowLength rfl (by decide +kernel) ⟨Nat.le_of_ble_eq_true rfl, Nat.le_of_ble_eq_true rfl⟩ rfl hl.1 w hu_1 rfl (Nat.le_of_ble_eq_true rfl) ⟨Nat.zero_le _, Nat.zero_le _⟩ dX0_chain_1 (fun H locs w => ?_)
  refine lv_if_ne (tgt := 10) hx hb dX0_chain_4 (by decide) (fun k_2 => ?_) (fun k_2 => ?_)
  · have hf := y_ifn k_2 hf
    refine lv_iconst (v := 0) hx hb dX0_chain_10 (by decide) ?_
    refine lv_istore (lv' := [(4, .int 0), (0, .ref h0), (1, .long a1), (3, .int a3)]) hx hb dX0_chain_11 hl (by decide) rfl (fun ls hl => ?_)
    refine lv_iconst (v := 0) hx hb dX0_chain_13 (by decide) ?_
    refine lv_istore (lv' := [(5, .int 0), (4, .int 0), (0, .ref h0), (1, .long a1), (3, .int a3)]) hx hb dX0_chain_14 hl (by decide) rfl (fun ls hl => ?_)
    exact b0_chain_L16 F hA hret 40 a1 a3 0 0 st hf _ _ _ w (lv_sub hl [2, 3, 4, 1, 0] rfl)
  · have hf := y_ifp k_2 hf
    refine lv_bipush (v := (-2)) hx hb dX0_chain_7 (by decide) ?_
    exact yret hret hf rfl w dX0_chain_9
theorem hin0_survey : ∀ w ∈ wsX00, w ∈ wsX0_survey := by decide +kernel
set_option maxHeartbeats 4000000 in
set_option maxRecDepth 100000 in
theorem b0_survey_L16 {l : Launch} {D : va_G} {h0 q1 q2 q3 : Nat} {cA : ClassId} {r : Int32} {st2 : St} {p : Program} {e : Env} {s : State} {m : MethodId} {args : Array Value} {below : List Frame} {meth : Method} {c : Code} {A : Nat → Prop} {Q : State → Prop} (F : CallFix p m c cX0_survey 7 s args wsX0_survey RX0) (hA : ∀ q, s.heap.size ≤ q → A q) (hret : yRetI D 0 h0 q1 q2 q3 cA p l e 2 s m args below meth c cX0_survey A Q .int r st2) : ∀ (n : Nat) (v1 : Int64) (v3 : Int32) (v4 : Int32) (v5 : Int32) (st : St), f0_survey_L16 n v1 v3 v4 v5 st = some (r, st2) → ∀ (H : Heap) (locs : List Loc) (ls : Array Slot), Wd D 0 h0 q1 q2 q3 cA A s st H locs → lv_has ls 7 [(0, .ref h0), (1, .long v1), (3, .int v3), (4, .int v4), (5, .int v5)] → W p l e (yrm 2) s m args below meth c H locs 0 0 Q (F0 m 16 ls []) := by
  have hx := F.1
  have hb := F.2.1
  intro n
  induction n with
  | zero =>
    intro v1 v3 v4 v5 st hf
    rw [f0_survey_L16] at hf
    cases hf
  | succ n ih =>
    intro v1 v3 v4 v5 st hf H locs ls w hl
    rw [f0_survey_L16] at hf
    refine lv_iload hx hb dX0_survey_16 (lv_at hl 4 rfl) ?_
    refine lv_iload_n hx hb dX0_survey_18 rfl (lv_at hl 2 rfl) ?_
    refine lv_icmp_ge (tgt := 62) hx hb dX0_survey_19 (by decide) (fun k_3 => ?_) (fun k_3 => ?_)
    · have hf := y_ifp k_3 hf
      refine lv_iload hx hb dX0_survey_62 (lv_at hl 3 rfl) ?_
      exact yret hret hf rfl w dX0_survey_64
    · have hf := y_ifn k_3 hf
      refine lv_lload_n hx hb dX0_survey_22 rfl (lv_at hl 1 rfl) ?_
      refine lv_iload hx hb dX0_survey_23 (lv_at hl 4 rfl) ?_
      obtain ⟨u_4, hu_4, hf⟩ := y_bd hf
      refine ycallSW (n := 2) (rest := []) F hA (c0_trackOfRow l v1 v5) gX0_survey_X0_trackOfRow rfl (by decide +kernel) ⟨Nat.le_of_ble_eq_true rfl, Nat.le_of_ble_eq_true rfl⟩ rfl hl.1 w hu_4 rfl (Nat.le_of_ble_eq_true rfl) ⟨Nat.zero_le _, Nat.zero_le _⟩ dX0_survey_25 (fun H locs w => ?_)
      refine lv_istore (lv' := [(6, .int u_4), (0, .ref h0), (1, .long v1), (3, .int v3), (4, .int v4), (5, .int v5)]) hx hb dX0_survey_28 hl (by decide) rfl (fun ls hl => ?_)
      refine lv_aload_n hx hb dX0_survey_30 rfl (lv_at hl 1 rfl) ?_
      refine lv_iload hx hb dX0_survey_31 (lv_at hl 0 rfl) ?_
      obtain ⟨u_5, hu_5, hf⟩ := y_bd hf
      refine ycallI (n := 1) (r := u_5.1) (st2 := u_5.2) (rest := []) F hA (c0_hold l D u_4) gX0_survey_X0_hold rfl (by decide +kernel) rfl ⟨Nat.le_of_ble_eq_true rfl, Nat.le_of_ble_eq_true rfl⟩ rfl hl.1 w hu_5 rfl (Nat.le_of_ble_eq_true rfl) ⟨Nat.zero_le _, Nat.zero_le _⟩ dX0_survey_33 (fun H locs w => ?_)
      refine lv_if_eq (tgt := 56) hx hb dX0_survey_36 (by decide) (fun k_6 => ?_) (fun k_6 => ?_)
      · have hf := y_ifp k_6 hf
        refine lv_iinc (v := v5 + 1) (lv' := [(5, .int (v5 + 1)), (6, .int u_4), (0, .ref h0), (1, .long v1), (3, .int v3), (4, .int v4)]) hx hb dX0_survey_56 hl (k := 5) rfl rfl (by decide) rfl (fun ls hl => ?_)
        refine lv_goto (tgt := 16) hx hb dX0_survey_59 (by decide) ?_
        exact ih v1 v3 v4 (v5 + 1) u_5.2 hf _ _ _ w (lv_sub hl [2, 3, 4, 5, 0] rfl)
      · have hf := y_ifn k_6 hf
        refine lv_iload hx hb dX0_survey_39 (lv_at hl 4 rfl) ?_
        refine lv_aload_n hx hb dX0_survey_41 rfl (lv_at hl 1 rfl) ?_
        refine lv_iconst (v := 1) hx hb dX0_survey_42 (by decide) ?_
        refine lv_aload_n hx hb dX0_survey_43 rfl (lv_at hl 1 rfl) ?_
        refine yget0 F hin0_survey w 1 (by decide) (by decide +kernel) (v := .ref q2) rfl dX0_survey_44 ?_
        refine lv_iload hx hb dX0_survey_47 (lv_at hl 0 rfl) ?_
        obtain ⟨x_7, hx_7, hf⟩ := y_bd hf
        refine yald1 F w hx_7 dX0_survey_49 ?_
        obtain ⟨u_8, hu_8, hf⟩ := y_bd hf
        refine ycallI (n := 2) (r := u_8.1) (st2 := u_8.2) (rest := [.int v4]) F hA (c0_letGo l D 1 x_7) gX0_survey_X0_letGo rfl (by decide +kernel) rfl ⟨Nat.le_of_ble_eq_true rfl, Nat.le_of_ble_eq_true rfl⟩ rfl hl.1 w hu_8 rfl (Nat.le_of_ble_eq_true rfl) ⟨Nat.zero_le _, Nat.zero_le _⟩ dX0_survey_50 (fun H locs w => ?_)
        refine lv_iadd hx hb dX0_survey_53 ?_
        refine lv_istore (lv' := [(4, .int (v4 + u_8.1)), (6, .int u_4), (0, .ref h0), (1, .long v1), (3, .int v3), (5, .int v5)]) hx hb dX0_survey_54 hl (by decide) rfl (fun ls hl => ?_)
        refine lv_iinc (v := v5 + 1) (lv' := [(5, .int (v5 + 1)), (4, .int (v4 + u_8.1)), (6, .int u_4), (0, .ref h0), (1, .long v1), (3, .int v3)]) hx hb dX0_survey_56 hl (k := 5) rfl rfl (by decide) rfl (fun ls hl => ?_)
        refine lv_goto (tgt := 16) hx hb dX0_survey_59 (by decide) ?_
        exact ih v1 v3 (v4 + u_8.1) (v5 + 1) u_8.2 hf _ _ _ w (lv_sub hl [3, 4, 5, 1, 0] rfl)
set_option maxHeartbeats 4000000 in
set_option maxRecDepth 100000 in
theorem c0_survey (l : Launch) (D : va_G) (a1 : Int64) (a3 : Int32) : yMet l D 0 yX0_survey wsX0_survey 2 [.long a1, .int a3] (f0_survey a1 a3) := by
  refine yentI (cc := cX0_survey) (nL := 7) (ret := .int) (by decide) rfl (fun _ => Nat.le_of_ble_eq_true rfl) ?_
  intro h0 q1 q2 q3 cA r st2 p e s m args below meth c A Q F hA hret st hf H locs ls w hl
  have F : CallFix p m c cX0_survey 7 s args wsX0_survey RX0 := F
  have hx := F.1
  have hb := F.2.1
  have hl : lv_has ls 7 [(0, .ref h0), (1, .long a1), (3, .int a3)] := hl
  unfold f0_survey at hf
  refine lv_iload_n hx hb dX0_survey_0 rfl (lv_at hl 2 rfl) ?_
  obtain ⟨u_1, hu_1, hf⟩ := y_bd hf
  refine ycallSW (n := 1) (rest := []) F hA (c0_isRowLength l a3) gX0_survey_X0_isRowLength rfl (by decide +kernel) ⟨Nat.le_of_ble_eq_true rfl, Nat.le_of_ble_eq_true rfl⟩ rfl hl.1 w hu_1 rfl (Nat.le_of_ble_eq_true rfl) ⟨Nat.zero_le _, Nat.zero_le _⟩ dX0_survey_1 (fun H locs w => ?_)
  refine lv_if_ne (tgt := 10) hx hb dX0_survey_4 (by decide) (fun k_2 => ?_) (fun k_2 => ?_)
  · have hf := y_ifn k_2 hf
    refine lv_iconst (v := 0) hx hb dX0_survey_10 (by decide) ?_
    refine lv_istore (lv' := [(4, .int 0), (0, .ref h0), (1, .long a1), (3, .int a3)]) hx hb dX0_survey_11 hl (by decide) rfl (fun ls hl => ?_)
    refine lv_iconst (v := 0) hx hb dX0_survey_13 (by decide) ?_
    refine lv_istore (lv' := [(5, .int 0), (4, .int 0), (0, .ref h0), (1, .long a1), (3, .int a3)]) hx hb dX0_survey_14 hl (by decide) rfl (fun ls hl => ?_)
    exact b0_survey_L16 F hA hret 40 a1 a3 0 0 st hf _ _ _ w (lv_sub hl [2, 3, 4, 1, 0] rfl)
  · have hf := y_ifp k_2 hf
    refine lv_bipush (v := (-2)) hx hb dX0_survey_7 (by decide) ?_
    exact yret hret hf rfl w dX0_survey_9
theorem hin0_turn : ∀ w ∈ wsX00, w ∈ wsX0_turn := by decide +kernel
set_option maxHeartbeats 4000000 in
set_option maxRecDepth 100000 in
theorem b0_turn_L30 {l : Launch} {D : va_G} {h0 q1 q2 q3 : Nat} {cA : ClassId} {r : Int32} {st2 : St} {p : Program} {e : Env} {s : State} {m : MethodId} {args : Array Value} {below : List Frame} {meth : Method} {c : Code} {A : Nat → Prop} {Q : State → Prop} (F : CallFix p m c cX0_turn 4 s args wsX0_turn RX0) (hA : ∀ q, s.heap.size ≤ q → A q) (hret : yRetI D 0 h0 q1 q2 q3 cA p l e 2 s m args below meth c cX0_turn A Q .int r st2) : ∀ (n : Nat) (v1 : Int32) (v2 : Int32) (v3 : Int32) (st : St), f0_turn_L30 n v1 v2 v3 st = some (r, st2) → ∀ (H : Heap) (locs : List Loc) (ls : Array Slot), Wd D 0 h0 q1 q2 q3 cA A s st H locs → lv_has ls 4 [(0, .ref h0), (1, .int v1), (2, .int v2), (3, .int v3)] → W p l e (yrm 2) s m args below meth c H locs 0 0 Q (F0 m 30 ls []) := by
  have hx := F.1
  have hb := F.2.1
  intro n
  induction n with
  | zero =>
    intro v1 v2 v3 st hf
    rw [f0_turn_L30] at hf
    cases hf
  | succ n ih =>
    intro v1 v2 v3 st hf H locs ls w hl
    rw [f0_turn_L30] at hf
    refine lv_iload_n hx hb dX0_turn_30 rfl (lv_at hl 3 rfl) ?_
    refine lv_iload_n hx hb dX0_turn_31 rfl (lv_at hl 2 rfl) ?_
    refine lv_iconst (v := 2) hx hb dX0_turn_32 (by decide) ?_
    refine lv_idiv hx hb dX0_turn_33 (by decide) ?_
    refine lv_icmp_ge (tgt := 74) hx hb dX0_turn_34 (by decide) (fun k_6 => ?_) (fun k_6 => ?_)
    · have hf := y_ifp k_6 hf
      refine lv_aload_n hx hb dX0_turn_74 rfl (lv_at hl 0 rfl) ?_
      refine lv_iconst (v := 1) hx hb dX0_turn_75 (by decide) ?_
      refine lv_iload_n hx hb dX0_turn_76 rfl (lv_at hl 2 rfl) ?_
      obtain ⟨u_7, hu_7, hf⟩ := y_bd hf
      refine ycallI (n := 2) (r := u_7.1) (st2 := u_7.2) (rest := []) F hA (c0_letGo l D 1 v2) gX0_turn_X0_letGo rfl (by decide +kernel) rfl ⟨Nat.le_of_ble_eq_true rfl, Nat.le_of_ble_eq_true rfl⟩ rfl hl.1 w hu_7 rfl (Nat.le_of_ble_eq_true rfl) ⟨Nat.zero_le _, Nat.zero_le _⟩ dX0_turn_77 (fun H locs w => ?_)
      exact yret hret hf rfl w dX0_turn_80
    · have hf := y_ifn k_6 hf
      refine lv_aload_n hx hb dX0_turn_37 rfl (lv_at hl 0 rfl) ?_
      refine lv_iload_n hx hb dX0_turn_38 rfl (lv_at hl 1 rfl) ?_
      obtain ⟨u_8, hu_8, hf⟩ := y_bd hf
      refine ycallI (n := 1) (r := u_8.1) (st2 := u_8.2) (rest := []) F hA (c0_hold l D v1) gX0_turn_X0_hold rfl (by decide +kernel) rfl ⟨Nat.le_of_ble_eq_true rfl, Nat.le_of_ble_eq_true rfl⟩ rfl hl.1 w hu_8 rfl (Nat.le_of_ble_eq_true rfl) ⟨Nat.zero_le _, Nat.zero_le _⟩ dX0_turn_39 (fun H locs w => ?_)
      refine lv_pop hx hb dX0_turn_42 rfl ?_
      refine lv_aload_n hx hb dX0_turn_43 rfl (lv_at hl 0 rfl) ?_
      refine lv_iload_n hx hb dX0_turn_44 rfl (lv_at hl 1 rfl) ?_
      refine lv_iload_n hx hb dX0_turn_45 rfl (lv_at hl 3 rfl) ?_
      obtain ⟨u_9, hu_9, hf⟩ := y_bd hf
      refine ycallSW (n := 2) (rest := [.ref h0]) F hA (c0_place l v1 v3) gX0_turn_X0_place rfl (by decide +kernel) ⟨Nat.le_of_ble_eq_true rfl, Nat.le_of_ble_eq_true rfl⟩ rfl hl.1 w hu_9 rfl (Nat.le_of_ble_eq_true rfl) ⟨Nat.zero_le _, Nat.zero_le _⟩ dX0_turn_46 (fun H locs w => ?_)
      refine lv_iload_n hx hb dX0_turn_49 rfl (lv_at hl 1 rfl) ?_
      refine lv_iload_n hx hb dX0_turn_50 rfl (lv_at hl 2 rfl) ?_
      refine lv_iconst (v := 1) hx hb dX0_turn_51 (by decide) ?_
      refine lv_isub hx hb dX0_turn_52 ?_
      refine lv_iload_n hx hb dX0_turn_53 rfl (lv_at hl 3 rfl) ?_
      refine lv_isub hx hb dX0_turn_54 ?_
      obtain ⟨u_10, hu_10, hf⟩ := y_bd hf
      refine ycallSW (n := 2) (rest := [.int u_9, .ref h0]) F hA (c0_place l v1 ((v2 - 1) - v3)) gX0_turn_X0_place rfl (by decide +kernel) ⟨Nat.le_of_ble_eq_true rfl, Nat.le_of_ble_eq_true rfl⟩ rfl hl.1 w hu_10 rfl (Nat.le_of_ble_eq_true rfl) ⟨Nat.zero_le _, Nat.zero_le _⟩ dX0_turn_55 (fun H locs w => ?_)
      obtain ⟨u_11, hu_11, hf⟩ := y_bd hf
      refine ycallV (n := 2) (r := u_11.1) (st2 := u_11.2) (rest := []) F hA (c0_exchangePlaces l D u_9 u_10) gX0_turn_X0_exchangePlaces rfl (by decide +kernel) rfl ⟨Nat.le_of_ble_eq_true rfl, Nat.le_of_ble_eq_true rfl⟩ rfl hl.1 w hu_11 rfl (Nat.le_of_ble_eq_true rfl) ⟨Nat.zero_le _, Nat.zero_le _⟩ dX0_turn_58 (fun H locs w => ?_)
      refine lv_aload_n hx hb dX0_turn_61 rfl (lv_at hl 0 rfl) ?_
      refine lv_iconst (v := 1) hx hb dX0_turn_62 (by decide) ?_
      refine lv_iconst (v := 0) hx hb dX0_turn_63 (by decide) ?_
      obtain ⟨u_12, hu_12, hf⟩ := y_bd hf
      refine ycallI (n := 2) (r := u_12.1) (st2 := u_12.2) (rest := []) F hA (c0_letGo l D 1 0) gX0_turn_X0_letGo rfl (by decide +kernel) rfl ⟨Nat.le_of_ble_eq_true rfl, Nat.le_of_ble_eq_true rfl⟩ rfl hl.1 w hu_12 rfl (Nat.le_of_ble_eq_true rfl) ⟨Nat.zero_le _, Nat.zero_le _⟩ dX0_turn_64 (fun H locs w => ?_)
      refine lv_pop hx hb dX0_turn_67 rfl ?_
      refine lv_iinc (v := v3 + 1) (lv' := [(3, .int (v3 + 1)), (0, .ref h0), (1, .int v1), (2, .int v2)]) hx hb dX0_turn_68 hl (k := 3) rfl rfl (by decide) rfl (fun ls hl => ?_)
      refine lv_goto (tgt := 30) hx hb dX0_turn_71 (by decide) ?_
      exact ih v1 v2 (v3 + 1) u_12.2 hf _ _ _ w (lv_sub hl [1, 2, 3, 0] rfl)
set_option maxHeartbeats 4000000 in
set_option maxRecDepth 100000 in
theorem c0_turn (l : Launch) (D : va_G) (a1 : Int32) : yMet l D 0 yX0_turn wsX0_turn 2 [.int a1] (f0_turn a1) := by
  refine yentI (cc := cX0_turn) (nL := 4) (ret := .int) (by decide) rfl (fun _ => Nat.le_of_ble_eq_true rfl) ?_
  intro h0 q1 q2 q3 cA r st2 p e s m args below meth c A Q F hA hret st hf H locs ls w hl
  have F : CallFix p m c cX0_turn 4 s args wsX0_turn RX0 := F
  have hx := F.1
  have hb := F.2.1
  have hl : lv_has ls 4 [(0, .ref h0), (1, .int a1)] := hl
  unfold f0_turn at hf
  refine lv_iload_n hx hb dX0_turn_0 rfl (lv_at hl 1 rfl) ?_
  obtain ⟨u_1, hu_1, hf⟩ := y_bd hf
  refine ycallSW (n := 1) (rest := []) F hA (c0_isTrack l a1) gX0_turn_X0_isTrack rfl (by decide +kernel) ⟨Nat.le_of_ble_eq_true rfl, Nat.le_of_ble_eq_true rfl⟩ rfl hl.1 w hu_1 rfl (Nat.le_of_ble_eq_true rfl) ⟨Nat.zero_le _, Nat.zero_le _⟩ dX0_turn_1 (fun H locs w => ?_)
  refine lv_if_ne (tgt := 10) hx hb dX0_turn_4 (by decide) (fun k_2 => ?_) (fun k_2 => ?_)
  · have hf := y_ifn k_2 hf
    refine lv_aload_n hx hb dX0_turn_10 rfl (lv_at hl 0 rfl) ?_
    refine lv_iload_n hx hb dX0_turn_11 rfl (lv_at hl 1 rfl) ?_
    obtain ⟨u_3, hu_3, hf⟩ := y_bd hf
    refine ycallI (n := 1) (r := u_3.1) (st2 := u_3.2) (rest := []) F hA (c0_hold l D a1) gX0_turn_X0_hold rfl (by decide +kernel) rfl ⟨Nat.le_of_ble_eq_true rfl, Nat.le_of_ble_eq_true rfl⟩ rfl hl.1 w hu_3 rfl (Nat.le_of_ble_eq_true rfl) ⟨Nat.zero_le _, Nat.zero_le _⟩ dX0_turn_12 (fun H locs w => ?_)
    refine lv_if_ne (tgt := 21) hx hb dX0_turn_15 (by decide) (fun k_4 => ?_) (fun k_4 => ?_)
    · have hf := y_ifn k_4 hf
      refine lv_aload_n hx hb dX0_turn_21 rfl (lv_at hl 0 rfl) ?_
      refine yget0 F hin0_turn w 1 (by decide) (by decide +kernel) (v := .ref q2) rfl dX0_turn_22 ?_
      refine lv_iload_n hx hb dX0_turn_25 rfl (lv_at hl 1 rfl) ?_
      obtain ⟨x_5, hx_5, hf⟩ := y_bd hf
      refine yald1 F w hx_5 dX0_turn_26 ?_
      refine lv_istore_n (lv' := [(2, .int x_5), (0, .ref h0), (1, .int a1)]) hx hb dX0_turn_27 rfl hl (by decide) rfl (fun ls hl => ?_)
      refine lv_iconst (v := 0) hx hb dX0_turn_28 (by decide) ?_
      refine lv_istore_n (lv' := [(3, .int 0), (2, .int x_5), (0, .ref h0), (1, .int a1)]) hx hb dX0_turn_29 rfl hl (by decide) rfl (fun ls hl => ?_)
      exact b0_turn_L30 F hA hret 40 a1 x_5 0 u_3.2 hf _ _ _ w (lv_sub hl [2, 3, 1, 0] rfl)
    · have hf := y_ifp k_4 hf
      refine lv_bipush (v := (-3)) hx hb dX0_turn_18 (by decide) ?_
      exact yret hret hf rfl w dX0_turn_20
  · have hf := y_ifp k_2 hf
    refine lv_bipush (v := (-2)) hx hb dX0_turn_7 (by decide) ?_
    exact yret hret hf rfl w dX0_turn_9
set_option maxHeartbeats 4000000 in
set_option maxRecDepth 100000 in
theorem c0_swap (l : Launch) (D : va_G) (a1 : Int32) (a2 : Int32) : yMet l D 0 yX0_swap wsX0_swap 2 [.int a1, .int a2] (f0_swap a1 a2) := by
  refine yentI (cc := cX0_swap) (nL := 3) (ret := .int) (by decide) rfl (fun _ => Nat.le_of_ble_eq_true rfl) ?_
  intro h0 q1 q2 q3 cA r st2 p e s m args below meth c A Q F hA hret st hf H locs ls w hl
  have F : CallFix p m c cX0_swap 3 s args wsX0_swap RX0 := F
  have hx := F.1
  have hb := F.2.1
  have hl : lv_has ls 3 [(0, .ref h0), (1, .int a1), (2, .int a2)] := hl
  unfold f0_swap at hf
  refine lv_iload_n hx hb dX0_swap_0 rfl (lv_at hl 1 rfl) ?_
  obtain ⟨u_1, hu_1, hf⟩ := y_bd hf
  refine ycallSW (n := 1) (rest := []) F hA (c0_isTrack l a1) gX0_swap_X0_isTrack rfl (by decide +kernel) ⟨Nat.le_of_ble_eq_true rfl, Nat.le_of_ble_eq_true rfl⟩ rfl hl.1 w hu_1 rfl (Nat.le_of_ble_eq_true rfl) ⟨Nat.zero_le _, Nat.zero_le _⟩ dX0_swap_1 (fun H locs w => ?_)
  refine lv_if_eq (tgt := 14) hx hb dX0_swap_4 (by decide) (fun k_2 => ?_) (fun k_2 => ?_)
  · have hf := y_ifp k_2 hf
    refine lv_bipush (v := (-2)) hx hb dX0_swap_14 (by decide) ?_
    exact yret hret hf rfl w dX0_swap_16
  · have hf := y_ifn k_2 hf
    refine lv_iload_n hx hb dX0_swap_7 rfl (lv_at hl 2 rfl) ?_
    obtain ⟨u_3, hu_3, hf⟩ := y_bd hf
    refine ycallSW (n := 1) (rest := []) F hA (c0_isTrack l a2) gX0_swap_X0_isTrack rfl (by decide +kernel) ⟨Nat.le_of_ble_eq_true rfl, Nat.le_of_ble_eq_true rfl⟩ rfl hl.1 w hu_3 rfl (Nat.le_of_ble_eq_true rfl) ⟨Nat.zero_le _, Nat.zero_le _⟩ dX0_swap_8 (fun H locs w => ?_)
    refine lv_if_ne (tgt := 17) hx hb dX0_swap_11 (by decide) (fun k_4 => ?_) (fun k_4 => ?_)
    · have hf := y_ifn k_4 hf
      refine lv_aload_n hx hb dX0_swap_17 rfl (lv_at hl 0 rfl) ?_
      refine lv_iload_n hx hb dX0_swap_18 rfl (lv_at hl 1 rfl) ?_
      obtain ⟨u_5, hu_5, hf⟩ := y_bd hf
      refine ycallI (n := 1) (r := u_5.1) (st2 := u_5.2) (rest := []) F hA (c0_hold l D a1) gX0_swap_X0_hold rfl (by decide +kernel) rfl ⟨Nat.le_of_ble_eq_true rfl, Nat.le_of_ble_eq_true rfl⟩ rfl hl.1 w hu_5 rfl (Nat.le_of_ble_eq_true rfl) ⟨Nat.zero_le _, Nat.zero_le _⟩ dX0_swap_19 (fun H locs w => ?_)
      refine lv_if_ne (tgt := 28) hx hb dX0_swap_22 (by decide) (fun k_6 => ?_) (fun k_6 => ?_)
      · have hf := y_ifn k_6 hf
        refine lv_aload_n hx hb dX0_swap_28 rfl (lv_at hl 0 rfl) ?_
        refine lv_iload_n hx hb dX0_swap_29 rfl (lv_at hl 2 rfl) ?_
        obtain ⟨u_7, hu_7, hf⟩ := y_bd hf
        refine ycallI (n := 1) (r := u_7.1) (st2 := u_7.2) (rest := []) F hA (c0_hold l D a2) gX0_swap_X0_hold rfl (by decide +kernel) rfl ⟨Nat.le_of_ble_eq_true rfl, Nat.le_of_ble_eq_true rfl⟩ rfl hl.1 w hu_7 rfl (Nat.le_of_ble_eq_true rfl) ⟨Nat.zero_le _, Nat.zero_le _⟩ dX0_swap_30 (fun H locs w => ?_)
        refine lv_if_ne (tgt := 44) hx hb dX0_swap_33 (by decide) (fun k_8 => ?_) (fun k_8 => ?_)
        · have hf := y_ifn k_8 hf
          refine lv_aload_n hx hb dX0_swap_44 rfl (lv_at hl 0 rfl) ?_
          refine lv_iload_n hx hb dX0_swap_45 rfl (lv_at hl 1 rfl) ?_
          obtain ⟨u_9, hu_9, hf⟩ := y_bd hf
          refine ycallI (n := 1) (r := u_9.1) (st2 := u_9.2) (rest := []) F hA (c0_hold l D a1) gX0_swap_X0_hold rfl (by decide +kernel) rfl ⟨Nat.le_of_ble_eq_true rfl, Nat.le_of_ble_eq_true rfl⟩ rfl hl.1 w hu_9 rfl (Nat.le_of_ble_eq_true rfl) ⟨Nat.zero_le _, Nat.zero_le _⟩ dX0_swap_46 (fun H locs w => ?_)
          refine lv_pop hx hb dX0_swap_49 rfl ?_
          refine lv_aload_n hx hb dX0_swap_50 rfl (lv_at hl 0 rfl) ?_
          refine lv_iconst (v := 3) hx hb dX0_swap_51 (by decide) ?_
          refine lv_aload_n hx hb dX0_swap_52 rfl (lv_at hl 0 rfl) ?_
          refine lv_iload_n hx hb dX0_swap_53 rfl (lv_at hl 1 rfl) ?_
          refine lv_iload_n hx hb dX0_swap_54 rfl (lv_at hl 2 rfl) ?_
          obtain ⟨u_10, hu_10, hf⟩ := y_bd hf
          refine ycallI (n := 2) (r := u_10.1) (st2 := u_10.2) (rest := [.int 3, .ref h0]) F hA (c0_exchangeRows l D a1 a2) gX0_swap_X0_exchangeRows rfl (by decide +kernel) rfl ⟨Nat.le_of_ble_eq_true rfl, Nat.le_of_ble_eq_true rfl⟩ rfl hl.1 w hu_10 rfl (Nat.le_of_ble_eq_true rfl) ⟨Nat.zero_le _, Nat.zero_le _⟩ dX0_swap_55 (fun H locs w => ?_)
          obtain ⟨u_11, hu_11, hf⟩ := y_bd hf
          refine ycallI (n := 2) (r := u_11.1) (st2 := u_11.2) (rest := []) F hA (c0_letGo l D 3 u_10.1) gX0_swap_X0_letGo rfl (by decide +kernel) rfl ⟨Nat.le_of_ble_eq_true rfl, Nat.le_of_ble_eq_true rfl⟩ rfl hl.1 w hu_11 rfl (Nat.le_of_ble_eq_true rfl) ⟨Nat.zero_le _, Nat.zero_le _⟩ dX0_swap_58 (fun H locs w => ?_)
          exact yret hret hf rfl w dX0_swap_61
        · have hf := y_ifp k_8 hf
          refine lv_aload_n hx hb dX0_swap_36 rfl (lv_at hl 0 rfl) ?_
          refine lv_iconst (v := 1) hx hb dX0_swap_37 (by decide) ?_
          refine lv_bipush (v := (-3)) hx hb dX0_swap_38 (by decide) ?_
          obtain ⟨u_12, hu_12, hf⟩ := y_bd hf
          refine ycallI (n := 2) (r := u_12.1) (st2 := u_12.2) (rest := []) F hA (c0_letGo l D 1 (-3)) gX0_swap_X0_letGo rfl (by decide +kernel) rfl ⟨Nat.le_of_ble_eq_true rfl, Nat.le_of_ble_eq_true rfl⟩ rfl hl.1 w hu_12 rfl (Nat.le_of_ble_eq_true rfl) ⟨Nat.zero_le _, Nat.zero_le _⟩ dX0_swap_40 (fun H locs w => ?_)
          exact yret hret hf rfl w dX0_swap_43
      · have hf := y_ifp k_6 hf
        refine lv_bipush (v := (-3)) hx hb dX0_swap_25 (by decide) ?_
        exact yret hret hf rfl w dX0_swap_27
    · have hf := y_ifp k_4 hf
      refine lv_bipush (v := (-2)) hx hb dX0_swap_14 (by decide) ?_
      exact yret hret hf rfl w dX0_swap_16
theorem hin0_wagon : ∀ w ∈ wsX00, w ∈ wsX0_wagon := by decide +kernel
set_option maxHeartbeats 4000000 in
set_option maxRecDepth 100000 in
theorem c0_wagon (l : Launch) (D : va_G) (a1 : Int32) (a2 : Int32) : yMet l D 0 yX0_wagon wsX0_wagon 1 [.int a1, .int a2] (f0_wagon a1 a2) := by
  refine yentI (cc := cX0_wagon) (nL := 3) (ret := .int) (by decide) rfl (fun _ => Nat.le_of_ble_eq_true rfl) ?_
  intro h0 q1 q2 q3 cA r st2 p e s m args below meth c A Q F hA hret st hf H locs ls w hl
  have F : CallFix p m c cX0_wagon 3 s args wsX0_wagon RX0 := F
  have hx := F.1
  have hb := F.2.1
  have hl : lv_has ls 3 [(0, .ref h0), (1, .int a1), (2, .int a2)] := hl
  unfold f0_wagon at hf
  refine lv_iload_n hx hb dX0_wagon_0 rfl (lv_at hl 1 rfl) ?_
  obtain ⟨u_1, hu_1, hf⟩ := y_bd hf
  refine ycallSW (n := 1) (rest := []) F hA (c0_isTrack l a1) gX0_wagon_X0_isTrack rfl (by decide +kernel) ⟨Nat.le_of_ble_eq_true rfl, Nat.le_of_ble_eq_true rfl⟩ rfl hl.1 w hu_1 rfl (Nat.le_of_ble_eq_true rfl) ⟨Nat.zero_le _, Nat.zero_le _⟩ dX0_wagon_1 (fun H locs w => ?_)
  refine lv_if_ne (tgt := 10) hx hb dX0_wagon_4 (by decide) (fun k_2 => ?_) (fun k_2 => ?_)
  · have hf := y_ifn k_2 hf
    refine lv_iload_n hx hb dX0_wagon_10 rfl (lv_at hl 2 rfl) ?_
    refine lv_if_lt (tgt := 24) hx hb dX0_wagon_11 (by decide) (fun k_3 => ?_) (fun k_3 => ?_)
    · have hf := y_ifp k_3 hf
      refine lv_iconst (v := 0) hx hb dX0_wagon_24 (by decide) ?_
      exact yret hret hf rfl w dX0_wagon_25
    · have hf := y_ifn k_3 hf
      refine lv_iload_n hx hb dX0_wagon_14 rfl (lv_at hl 2 rfl) ?_
      refine lv_aload_n hx hb dX0_wagon_15 rfl (lv_at hl 0 rfl) ?_
      refine yget0 F hin0_wagon w 1 (by decide) (by decide +kernel) (v := .ref q2) rfl dX0_wagon_16 ?_
      refine lv_iload_n hx hb dX0_wagon_19 rfl (lv_at hl 1 rfl) ?_
      obtain ⟨x_4, hx_4, hf⟩ := y_bd hf
      refine yald1 F w hx_4 dX0_wagon_20 ?_
      refine lv_icmp_lt (tgt := 26) hx hb dX0_wagon_21 (by decide) (fun k_5 => ?_) (fun k_5 => ?_)
      · have hf := y_ifp k_5 hf
        refine lv_aload_n hx hb dX0_wagon_26 rfl (lv_at hl 0 rfl) ?_
        refine yget0 F hin0_wagon w 2 (by decide) (by decide +kernel) (v := .ref q3) rfl dX0_wagon_27 ?_
        refine lv_iload_n hx hb dX0_wagon_30 rfl (lv_at hl 1 rfl) ?_
        refine lv_iload_n hx hb dX0_wagon_31 rfl (lv_at hl 2 rfl) ?_
        obtain ⟨u_6, hu_6, hf⟩ := y_bd hf
        refine ycallSW (n := 2) (rest := [.ref q3]) F hA (c0_place l a1 a2) gX0_wagon_X0_place rfl (by decide +kernel) ⟨Nat.le_of_ble_eq_true rfl, Nat.le_of_ble_eq_true rfl⟩ rfl hl.1 w hu_6 rfl (Nat.le_of_ble_eq_true rfl) ⟨Nat.zero_le _, Nat.zero_le _⟩ dX0_wagon_32 (fun H locs w => ?_)
        obtain ⟨x_7, hx_7, hf⟩ := y_bd hf
        refine yald2 F w hx_7 dX0_wagon_35 ?_
        exact yret hret hf rfl w dX0_wagon_36
      · have hf := y_ifn k_5 hf
        refine lv_iconst (v := 0) hx hb dX0_wagon_24 (by decide) ?_
        exact yret hret hf rfl w dX0_wagon_25
  · have hf := y_ifp k_2 hf
    refine lv_bipush (v := (-2)) hx hb dX0_wagon_7 (by decide) ?_
    exact yret hret hf rfl w dX0_wagon_9
theorem hin0_told : ∀ w ∈ wsX00, w ∈ wsX0_told := by decide +kernel
set_option maxHeartbeats 4000000 in
set_option maxRecDepth 100000 in
theorem c0_told (l : Launch) (D : va_G) (a1 : Int32) : yMet l D 0 yX0_told wsX0_told 2 [.int a1] (f0_told a1) := by
  refine yentI (cc := cX0_told) (nL := 2) (ret := .int) (by decide) rfl (fun _ => Nat.le_of_ble_eq_true rfl) ?_
  intro h0 q1 q2 q3 cA r st2 p e s m args below meth c A Q F hA hret st hf H locs ls w hl
  have F : CallFix p m c cX0_told 2 s args wsX0_told RX0 := F
  have hx := F.1
  have hb := F.2.1
  have hl : lv_has ls 2 [(0, .ref h0), (1, .int a1)] := hl
  unfold f0_told at hf
  refine lv_iload_n hx hb dX0_told_0 rfl (lv_at hl 1 rfl) ?_
  by_cases k_1 : a1 = 0
  · have hf := y_ifp k_1 hf
    refine lv_tableIn (off := 43) (tgt := 44) hx hb dX0_told_1 (by rw [k_1]; decide) (by rw [k_1]; decide) (by rw [k_1]; decide) (by decide) ?_
    refine lv_aload_n hx hb dX0_told_44 rfl (lv_at hl 0 rfl) ?_
    refine yget0 F hin0_told w 3 (by decide) (by decide +kernel) (v := .int (yG3 st)) rfl dX0_told_45 ?_
    exact yret hret hf rfl w dX0_told_48
  have hf := y_ifn k_1 hf
  by_cases k_2 : a1 = 1
  · have hf := y_ifp k_2 hf
    refine lv_tableIn (off := 48) (tgt := 49) hx hb dX0_told_1 (by rw [k_2]; decide) (by rw [k_2]; decide) (by rw [k_2]; decide) (by decide) ?_
    refine lv_aload_n hx hb dX0_told_49 rfl (lv_at hl 0 rfl) ?_
    refine yget0 F hin0_told w 4 (by decide) (by decide +kernel) (v := .int (yG4 st)) rfl dX0_told_50 ?_
    exact yret hret hf rfl w dX0_told_53
  have hf := y_ifn k_2 hf
  by_cases k_3 : a1 = 2
  · have hf := y_ifp k_3 hf
    refine lv_tableIn (off := 53) (tgt := 54) hx hb dX0_told_1 (by rw [k_3]; decide) (by rw [k_3]; decide) (by rw [k_3]; decide) (by decide) ?_
    refine lv_aload_n hx hb dX0_told_54 rfl (lv_at hl 0 rfl) ?_
    refine yget0 F hin0_told w 5 (by decide) (by decide +kernel) (v := .int (yG5 st)) rfl dX0_told_55 ?_
    exact yret hret hf rfl w dX0_told_58
  have hf := y_ifn k_3 hf
  by_cases k_4 : a1 = 3
  · have hf := y_ifp k_4 hf
    refine lv_tableIn (off := 58) (tgt := 59) hx hb dX0_told_1 (by rw [k_4]; decide) (by rw [k_4]; decide) (by rw [k_4]; decide) (by decide) ?_
    refine lv_aload_n hx hb dX0_told_59 rfl (lv_at hl 0 rfl) ?_
    refine yget0 F hin0_told w 6 (by decide) (by decide +kernel) (v := .int (yG6 st)) rfl dX0_told_60 ?_
    exact yret hret hf rfl w dX0_told_63
  have hf := y_ifn k_4 hf
  by_cases k_5 : a1 = 4
  · have hf := y_ifp k_5 hf
    refine lv_tableIn (off := 63) (tgt := 64) hx hb dX0_told_1 (by rw [k_5]; decide) (by rw [k_5]; decide) (by rw [k_5]; decide) (by decide) ?_
    refine lv_aload_n hx hb dX0_told_64 rfl (lv_at hl 0 rfl) ?_
    refine yget0 F hin0_told w 7 (by decide) (by decide +kernel) (v := .int (yG7 st)) rfl dX0_told_65 ?_
    exact yret hret hf rfl w dX0_told_68
  have hf := y_ifn k_5 hf
  by_cases k_6 : a1 = 5
  · have hf := y_ifp k_6 hf
    refine lv_tableIn (off := 68) (tgt := 69) hx hb dX0_told_1 (by rw [k_6]; decide) (by rw [k_6]; decide) (by rw [k_6]; decide) (by decide) ?_
    refine lv_aload_n hx hb dX0_told_69 rfl (lv_at hl 0 rfl) ?_
    refine yget0 F hin0_told w 8 (by decide) (by decide +kernel) (v := .int (yG8 st)) rfl dX0_told_70 ?_
    exact yret hret hf rfl w dX0_told_73
  have hf := y_ifn k_6 hf
  by_cases k_7 : a1 = 6
  · have hf := y_ifp k_7 hf
    refine lv_tableIn (off := 73) (tgt := 74) hx hb dX0_told_1 (by rw [k_7]; decide) (by rw [k_7]; decide) (by rw [k_7]; decide) (by decide) ?_
    refine lv_aload_n hx hb dX0_told_74 rfl (lv_at hl 0 rfl) ?_
    obtain ⟨u_8, hu_8, hf⟩ := y_bd hf
    refine ycallI (n := 0) (r := u_8.1) (st2 := u_8.2) (rest := []) F hA (c0_tracksThere l D) gX0_told_X0_tracksThere rfl (by decide +kernel) rfl ⟨Nat.le_of_ble_eq_true rfl, Nat.le_of_ble_eq_true rfl⟩ rfl hl.1 w hu_8 rfl (Nat.le_of_ble_eq_true rfl) ⟨Nat.zero_le _, Nat.zero_le _⟩ dX0_told_75 (fun H locs w => ?_)
    exact yret hret hf rfl w dX0_told_78
  have hf := y_ifn k_7 hf
  refine lv_tableOut (tgt := 79) hx hb dX0_told_1 (by have g0 := lv_neT (a := 0) k_1 rfl; have g1 := lv_neT (a := 1) k_2 rfl; have g2 := lv_neT (a := 2) k_3 rfl; have g3 := lv_neT (a := 3) k_4 rfl; have g4 := lv_neT (a := 4) k_5 rfl; have g5 := lv_neT (a := 5) k_6 rfl; have g6 := lv_neT (a := 6) k_7 rfl; omega) (by decide) ?_
  refine lv_bipush (v := (-2)) hx hb dX0_told_79 (by decide) ?_
  exact yret hret hf rfl w dX0_told_81
