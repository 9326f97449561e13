theorem hin1_lay : ∀ w ∈ wsX10, w ∈ wsX1_lay := by decide +kernel
set_option maxHeartbeats 4000000 in
set_option maxRecDepth 100000 in
theorem c1_lay (l : Launch) (D : va_G) (a1 : Int32) (a2 : Int32) : yMet l D 1 yX1_lay wsX1_lay 2 [.int a1, .int a2] (f1_lay a1 a2) := by
  refine yentI (cc := cX1_lay) (nL := 3) (ret := .int) (by decide) rfl (fun _ => Nat.le_of_ble_eq_true rfl) ?_
  intro h0 q1 q2 q3 cA r st2 p e s m args below meth c A Q F hA hret st hf H locs ls w hl
  have F : CallFix p m c cX1_lay 3 s args wsX1_lay RX1 := F
  have hx := F.1
  have hb := F.2.1
  have hl : lv_has ls 3 [(0, .ref h0), (1, .int a1), (2, .int a2)] := hl
  unfold f1_lay at hf
  refine lv_iload_n hx hb dX1_lay_0 rfl (lv_at hl 1 rfl) ?_
  obtain ⟨u_1, hu_1, hf⟩ := y_bd hf
  refine ycallSW (n := 1) (rest := []) F hA (c1_isTrack l a1) gX1_lay_X1_isTrack rfl (by decide +kernel) ⟨Nat.le_of_ble_eq_true rfl, Nat.le_of_ble_eq_true rfl⟩ rfl hl.1 w hu_1 rfl (Nat.le_of_ble_eq_true rfl) ⟨Nat.zero_le _, Nat.zero_le _⟩ dX1_lay_1 (fun H locs w => ?_)
  refine lv_if_eq (tgt := 17) hx hb dX1_lay_4 (by decide) (fun k_2 => ?_) (fun k_2 => ?_)
  · have hf := y_ifp k_2 hf
    refine lv_bipush (v := (-2)) hx hb dX1_lay_17 (by decide) ?_
    exact yret hret hf rfl w dX1_lay_19
  · have hf := y_ifn k_2 hf
    refine lv_iload_n hx hb dX1_lay_7 rfl (lv_at hl 2 rfl) ?_
    refine lv_iconst (v := 1) hx hb dX1_lay_8 (by decide) ?_
    refine lv_bipush (v := 12) hx hb dX1_lay_9 (by decide) ?_
    obtain ⟨u_3, hu_3, hf⟩ := y_bd hf
    refine ycallSW (n := 3) (rest := []) F hA (c1_in l a2 1 12) gX1_lay_X1_in rfl (by decide +kernel) ⟨Nat.le_of_ble_eq_true rfl, Nat.le_of_ble_eq_true rfl⟩ rfl hl.1 w hu_3 rfl (Nat.le_of_ble_eq_true rfl) ⟨Nat.zero_le _, Nat.zero_le _⟩ dX1_lay_11 (fun H locs w => ?_)
    refine lv_if_ne (tgt := 20) hx hb dX1_lay_14 (by decide) (fun k_4 => ?_) (fun k_4 => ?_)
    · have hf := y_ifn k_4 hf
      refine lv_aload_n hx hb dX1_lay_20 rfl (lv_at hl 0 rfl) ?_
      refine yget1 F hin1_lay w 0 (by decide) (by decide +kernel) (v := .ref q1) rfl dX1_lay_21 ?_
      refine lv_iload_n hx hb dX1_lay_24 rfl (lv_at hl 1 rfl) ?_
      obtain ⟨x_5, hx_5, hf⟩ := y_bd hf
      refine yald0 F w hx_5 dX1_lay_25 ?_
      refine lv_if_le (tgt := 31) hx hb dX1_lay_26 (by decide) (fun k_6 => ?_) (fun k_6 => ?_)
      · have hf := y_ifp k_6 hf
        refine lv_aload_n hx hb dX1_lay_31 rfl (lv_at hl 0 rfl) ?_
        refine yget1 F hin1_lay w 0 (by decide) (by decide +kernel) (v := .ref q1) rfl dX1_lay_32 ?_
        refine lv_iload_n hx hb dX1_lay_35 rfl (lv_at hl 1 rfl) ?_
        refine lv_iload_n hx hb dX1_lay_36 rfl (lv_at hl 2 rfl) ?_
        obtain ⟨st_7, hst_7, hf⟩ := y_bd hf
        refine yast0 F w hst_7 dX1_lay_37 (fun H locs w => ?_)
        refine lv_aload_n hx hb dX1_lay_38 rfl (lv_at hl 0 rfl) ?_
        refine yget1 F hin1_lay w 1 (by decide) (by decide +kernel) (v := .ref q2) rfl dX1_lay_39 ?_
        refine lv_iload_n hx hb dX1_lay_42 rfl (lv_at hl 1 rfl) ?_
        refine lv_iconst (v := 0) hx hb dX1_lay_43 (by decide) ?_
        obtain ⟨st_8, hst_8, hf⟩ := y_bd hf
        refine yast1 F w hst_8 dX1_lay_44 (fun H locs w => ?_)
        refine lv_iconst (v := 1) hx hb dX1_lay_45 (by decide) ?_
        exact yret hret hf rfl w dX1_lay_46
      · have hf := y_ifn k_6 hf
        refine lv_iconst (v := 0) hx hb dX1_lay_29 (by decide) ?_
        exact yret hret hf rfl w dX1_lay_30
    · have hf := y_ifp k_4 hf
      refine lv_bipush (v := (-2)) hx hb dX1_lay_17 (by decide) ?_
      exact yret hret hf rfl w dX1_lay_19
theorem hin1_lift : ∀ w ∈ wsX10, w ∈ wsX1_lift := by decide +kernel
set_option maxHeartbeats 4000000 in
set_option maxRecDepth 100000 in
theorem c1_lift (l : Launch) (D : va_G) (a1 : Int32) : yMet l D 1 yX1_lift wsX1_lift 2 [.int a1] (f1_lift a1) := by
  refine yentI (cc := cX1_lift) (nL := 3) (ret := .int) (by decide) rfl (fun _ => Nat.le_of_ble_eq_true rfl) ?_
  intro h0 q1 q2 q3 cA r st2 p e s m args below meth c A Q F hA hret st hf H locs ls w hl
  have F : CallFix p m c cX1_lift 3 s args wsX1_lift RX1 := F
  have hx := F.1
  have hb := F.2.1
  have hl : lv_has ls 3 [(0, .ref h0), (1, .int a1)] := hl
  unfold f1_lift at hf
  refine lv_iload_n hx hb dX1_lift_0 rfl (lv_at hl 1 rfl) ?_
  obtain ⟨u_1, hu_1, hf⟩ := y_bd hf
  refine ycallSW (n := 1) (rest := []) F hA (c1_isTrack l a1) gX1_lift_X1_isTrack rfl (by decide +kernel) ⟨Nat.le_of_ble_eq_true rfl, Nat.le_of_ble_eq_true rfl⟩ rfl hl.1 w hu_1 rfl (Nat.le_of_ble_eq_true rfl) ⟨Nat.zero_le _, Nat.zero_le _⟩ dX1_lift_1 (fun H locs w => ?_)
  refine lv_if_ne (tgt := 10) hx hb dX1_lift_4 (by decide) (fun k_2 => ?_) (fun k_2 => ?_)
  · have hf := y_ifn k_2 hf
    refine lv_aload_n hx hb dX1_lift_10 rfl (lv_at hl 0 rfl) ?_
    refine yget1 F hin1_lift w 0 (by decide) (by decide +kernel) (v := .ref q1) rfl dX1_lift_11 ?_
    refine lv_iload_n hx hb dX1_lift_14 rfl (lv_at hl 1 rfl) ?_
    obtain ⟨x_3, hx_3, hf⟩ := y_bd hf
    refine yald0 F w hx_3 dX1_lift_15 ?_
    refine lv_if_ne (tgt := 22) hx hb dX1_lift_16 (by decide) (fun k_4 => ?_) (fun k_4 => ?_)
    · have hf := y_ifn k_4 hf
      refine lv_aload_n hx hb dX1_lift_22 rfl (lv_at hl 0 rfl) ?_
      refine yget1 F hin1_lift w 1 (by decide) (by decide +kernel) (v := .ref q2) rfl dX1_lift_23 ?_
      refine lv_iload_n hx hb dX1_lift_26 rfl (lv_at hl 1 rfl) ?_
      obtain ⟨x_5, hx_5, hf⟩ := y_bd hf
      refine yald1 F w hx_5 dX1_lift_27 ?_
      refine lv_istore_n (lv' := [(2, .int x_5), (0, .ref h0), (1, .int a1)]) hx hb dX1_lift_28 rfl hl (by decide) rfl (fun ls hl => ?_)
      refine lv_aload_n hx hb dX1_lift_29 rfl (lv_at hl 1 rfl) ?_
      refine yget1 F hin1_lift w 0 (by decide) (by decide +kernel) (v := .ref q1) rfl dX1_lift_30 ?_
      refine lv_iload_n hx hb dX1_lift_33 rfl (lv_at hl 2 rfl) ?_
      refine lv_iconst (v := 0) hx hb dX1_lift_34 (by decide) ?_
      obtain ⟨st_6, hst_6, hf⟩ := y_bd hf
      refine yast0 F w hst_6 dX1_lift_35 (fun H locs w => ?_)
      refine lv_aload_n hx hb dX1_lift_36 rfl (lv_at hl 1 rfl) ?_
      refine yget1 F hin1_lift w 1 (by decide) (by decide +kernel) (v := .ref q2) rfl dX1_lift_37 ?_
      refine lv_iload_n hx hb dX1_lift_40 rfl (lv_at hl 2 rfl) ?_
      refine lv_iconst (v := 0) hx hb dX1_lift_41 (by decide) ?_
      obtain ⟨st_7, hst_7, hf⟩ := y_bd hf
      refine yast1 F w hst_7 dX1_lift_42 (fun H locs w => ?_)
      refine lv_iload_n hx hb dX1_lift_43 rfl (lv_at hl 0 rfl) ?_
      exact yret hret hf rfl w dX1_lift_44
    · have hf := y_ifp k_4 hf
      refine lv_bipush (v := (-3)) hx hb dX1_lift_19 (by decide) ?_
      exact yret hret hf rfl w dX1_lift_21
  · have hf := y_ifp k_2 hf
    refine lv_bipush (v := (-2)) hx hb dX1_lift_7 (by decide) ?_
    exact yret hret hf rfl w dX1_lift_9
theorem hin1_couple : ∀ w ∈ wsX10, w ∈ wsX1_couple := by decide +kernel
set_option maxHeartbeats 4000000 in
set_option maxRecDepth 100000 in
theorem c1_couple (l : Launch) (D : va_G) (a1 : Int32) (a2 : Int32) : yMet l D 1 yX1_couple wsX1_couple 2 [.int a1, .int a2] (f1_couple a1 a2) := by
  refine yentI (cc := cX1_couple) (nL := 3) (ret := .int) (by decide) rfl (fun _ => Nat.le_of_ble_eq_true rfl) ?_
  intro h0 q1 q2 q3 cA r st2 p e s m args below meth c A Q F hA hret st hf H locs ls w hl
  have F : CallFix p m c cX1_couple 3 s args wsX1_couple RX1 := F
  have hx := F.1
  have hb := F.2.1
  have hl : lv_has ls 3 [(0, .ref h0), (1, .int a1), (2, .int a2)] := hl
  unfold f1_couple at hf
  refine lv_iload_n hx hb dX1_couple_0 rfl (lv_at hl 1 rfl) ?_
  obtain ⟨u_1, hu_1, hf⟩ := y_bd hf
  refine ycallSW (n := 1) (rest := []) F hA (c1_isTrack l a1) gX1_couple_X1_isTrack rfl (by decide +kernel) ⟨Nat.le_of_ble_eq_true rfl, Nat.le_of_ble_eq_true rfl⟩ rfl hl.1 w hu_1 rfl (Nat.le_of_ble_eq_true rfl) ⟨Nat.zero_le _, Nat.zero_le _⟩ dX1_couple_1 (fun H locs w => ?_)
  refine lv_if_eq (tgt := 18) hx hb dX1_couple_4 (by decide) (fun k_2 => ?_) (fun k_2 => ?_)
  · have hf := y_ifp k_2 hf
    refine lv_bipush (v := (-2)) hx hb dX1_couple_18 (by decide) ?_
    exact yret hret hf rfl w dX1_couple_20
  · have hf := y_ifn k_2 hf
    refine lv_iload_n hx hb dX1_couple_7 rfl (lv_at hl 2 rfl) ?_
    refine lv_iconst (v := 1) hx hb dX1_couple_8 (by decide) ?_
    refine lv_sipush (v := 999) hx hb dX1_couple_9 (by decide) ?_
    obtain ⟨u_3, hu_3, hf⟩ := y_bd hf
    refine ycallSW (n := 3) (rest := []) F hA (c1_in l a2 1 999) gX1_couple_X1_in rfl (by decide +kernel) ⟨Nat.le_of_ble_eq_true rfl, Nat.le_of_ble_eq_true rfl⟩ rfl hl.1 w hu_3 rfl (Nat.le_of_ble_eq_true rfl) ⟨Nat.zero_le _, Nat.zero_le _⟩ dX1_couple_12 (fun H locs w => ?_)
    refine lv_if_ne (tgt := 21) hx hb dX1_couple_15 (by decide) (fun k_4 => ?_) (fun k_4 => ?_)
    · have hf := y_ifn k_4 hf
      refine lv_aload_n hx hb dX1_couple_21 rfl (lv_at hl 0 rfl) ?_
      refine lv_iload_n hx hb dX1_couple_22 rfl (lv_at hl 1 rfl) ?_
      obtain ⟨u_5, hu_5, hf⟩ := y_bd hf
      refine ycallI (n := 1) (r := u_5.1) (st2 := u_5.2) (rest := []) F hA (c1_holds l D a1) gX1_couple_X1_holds rfl (by decide +kernel) rfl ⟨Nat.le_of_ble_eq_true rfl, Nat.le_of_ble_eq_true rfl⟩ rfl hl.1 w hu_5 rfl (Nat.le_of_ble_eq_true rfl) ⟨Nat.zero_le _, Nat.zero_le _⟩ dX1_couple_23 (fun H locs w => ?_)
      refine lv_if_ne (tgt := 32) hx hb dX1_couple_26 (by decide) (fun k_6 => ?_) (fun k_6 => ?_)
      · have hf := y_ifn k_6 hf
        refine lv_aload_n hx hb dX1_couple_32 rfl (lv_at hl 0 rfl) ?_
        refine lv_iload_n hx hb dX1_couple_33 rfl (lv_at hl 1 rfl) ?_
        obtain ⟨u_7, hu_7, hf⟩ := y_bd hf
        refine ycallI (n := 1) (r := u_7.1) (st2 := u_7.2) (rest := []) F hA (c1_isFull l D a1) gX1_couple_X1_isFull rfl (by decide +kernel) rfl ⟨Nat.le_of_ble_eq_true rfl, Nat.le_of_ble_eq_true rfl⟩ rfl hl.1 w hu_7 rfl (Nat.le_of_ble_eq_true rfl) ⟨Nat.zero_le _, Nat.zero_le _⟩ dX1_couple_34 (fun H locs w => ?_)
        refine lv_if_eq (tgt := 48) hx hb dX1_couple_37 (by decide) (fun k_8 => ?_) (fun k_8 => ?_)
        · have hf := y_ifp k_8 hf
          refine lv_aload_n hx hb dX1_couple_48 rfl (lv_at hl 0 rfl) ?_
          refine lv_iload_n hx hb dX1_couple_49 rfl (lv_at hl 1 rfl) ?_
          refine lv_iload_n hx hb dX1_couple_50 rfl (lv_at hl 2 rfl) ?_
          obtain ⟨u_9, hu_9, hf⟩ := y_bd hf
          refine ycallV (n := 2) (r := u_9.1) (st2 := u_9.2) (rest := []) F hA (c1_come l D a1 a2) gX1_couple_X1_come rfl (by decide +kernel) rfl ⟨Nat.le_of_ble_eq_true rfl, Nat.le_of_ble_eq_true rfl⟩ rfl hl.1 w hu_9 rfl (Nat.le_of_ble_eq_true rfl) ⟨Nat.zero_le _, Nat.zero_le _⟩ dX1_couple_51 (fun H locs w => ?_)
          refine lv_aload_n hx hb dX1_couple_54 rfl (lv_at hl 0 rfl) ?_
          refine lv_iconst (v := 1) hx hb dX1_couple_55 (by decide) ?_
          refine lv_aload_n hx hb dX1_couple_56 rfl (lv_at hl 0 rfl) ?_
          refine yget1 F hin1_couple w 1 (by decide) (by decide +kernel) (v := .ref q2) rfl dX1_couple_57 ?_
          refine lv_iload_n hx hb dX1_couple_60 rfl (lv_at hl 1 rfl) ?_
          obtain ⟨x_10, hx_10, hf⟩ := y_bd hf
          refine yald1 F w hx_10 dX1_couple_61 ?_
          obtain ⟨u_11, hu_11, hf⟩ := y_bd hf
          refine ycallI (n := 2) (r := u_11.1) (st2 := u_11.2) (rest := []) F hA (c1_goes l D 1 x_10) gX1_couple_X1_goes rfl (by decide +kernel) rfl ⟨Nat.le_of_ble_eq_true rfl, Nat.le_of_ble_eq_true rfl⟩ rfl hl.1 w hu_11 rfl (Nat.le_of_ble_eq_true rfl) ⟨Nat.zero_le _, Nat.zero_le _⟩ dX1_couple_62 (fun H locs w => ?_)
          exact yret hret hf rfl w dX1_couple_65
        · have hf := y_ifn k_8 hf
          refine lv_aload_n hx hb dX1_couple_40 rfl (lv_at hl 0 rfl) ?_
          refine lv_iconst (v := 1) hx hb dX1_couple_41 (by decide) ?_
          refine lv_bipush (v := (-4)) hx hb dX1_couple_42 (by decide) ?_
          obtain ⟨u_12, hu_12, hf⟩ := y_bd hf
          refine ycallI (n := 2) (r := u_12.1) (st2 := u_12.2) (rest := []) F hA (c1_goes l D 1 (-4)) gX1_couple_X1_goes rfl (by decide +kernel) rfl ⟨Nat.le_of_ble_eq_true rfl, Nat.le_of_ble_eq_true rfl⟩ rfl hl.1 w hu_12 rfl (Nat.le_of_ble_eq_true rfl) ⟨Nat.zero_le _, Nat.zero_le _⟩ dX1_couple_44 (fun H locs w => ?_)
          exact yret hret hf rfl w dX1_couple_47
      · have hf := y_ifp k_6 hf
        refine lv_bipush (v := (-3)) hx hb dX1_couple_29 (by decide) ?_
        exact yret hret hf rfl w dX1_couple_31
    · have hf := y_ifp k_4 hf
      refine lv_bipush (v := (-2)) hx hb dX1_couple_18 (by decide) ?_
      exact yret hret hf rfl w dX1_couple_20
theorem hin1_uncouple : ∀ w ∈ wsX10, w ∈ wsX1_uncouple := by decide +kernel
set_option maxHeartbeats 4000000 in
set_option maxRecDepth 100000 in
theorem c1_uncouple (l : Launch) (D : va_G) (a1 : Int32) : yMet l D 1 yX1_uncouple wsX1_uncouple 2 [.int a1] (f1_uncouple a1) := by
  refine yentI (cc := cX1_uncouple) (nL := 3) (ret := .int) (by decide) rfl (fun _ => Nat.le_of_ble_eq_true rfl) ?_
  intro h0 q1 q2 q3 cA r st2 p e s m args below meth c A Q F hA hret st hf H locs ls w hl
  have F : CallFix p m c cX1_uncouple 3 s args wsX1_uncouple RX1 := F
  have hx := F.1
  have hb := F.2.1
  have hl : lv_has ls 3 [(0, .ref h0), (1, .int a1)] := hl
  unfold f1_uncouple at hf
  refine lv_iload_n hx hb dX1_uncouple_0 rfl (lv_at hl 1 rfl) ?_
  obtain ⟨u_1, hu_1, hf⟩ := y_bd hf
  refine ycallSW (n := 1) (rest := []) F hA (c1_isTrack l a1) gX1_uncouple_X1_isTrack rfl (by decide +kernel) ⟨Nat.le_of_ble_eq_true rfl, Nat.le_of_ble_eq_true rfl⟩ rfl hl.1 w hu_1 rfl (Nat.le_of_ble_eq_true rfl) ⟨Nat.zero_le _, Nat.zero_le _⟩ dX1_uncouple_1 (fun H locs w => ?_)
  refine lv_if_ne (tgt := 10) hx hb dX1_uncouple_4 (by decide) (fun k_2 => ?_) (fun k_2 => ?_)
  · have hf := y_ifn k_2 hf
    refine lv_aload_n hx hb dX1_uncouple_10 rfl (lv_at hl 0 rfl) ?_
    refine lv_iload_n hx hb dX1_uncouple_11 rfl (lv_at hl 1 rfl) ?_
    obtain ⟨u_3, hu_3, hf⟩ := y_bd hf
    refine ycallI (n := 1) (r := u_3.1) (st2 := u_3.2) (rest := []) F hA (c1_holds l D a1) gX1_uncouple_X1_holds rfl (by decide +kernel) rfl ⟨Nat.le_of_ble_eq_true rfl, Nat.le_of_ble_eq_true rfl⟩ rfl hl.1 w hu_3 rfl (Nat.le_of_ble_eq_true rfl) ⟨Nat.zero_le _, Nat.zero_le _⟩ dX1_uncouple_12 (fun H locs w => ?_)
    refine lv_if_ne (tgt := 21) hx hb dX1_uncouple_15 (by decide) (fun k_4 => ?_) (fun k_4 => ?_)
    · have hf := y_ifn k_4 hf
      refine lv_aload_n hx hb dX1_uncouple_21 rfl (lv_at hl 0 rfl) ?_
      refine yget1 F hin1_uncouple w 1 (by decide) (by decide +kernel) (v := .ref q2) rfl dX1_uncouple_22 ?_
      refine lv_iload_n hx hb dX1_uncouple_25 rfl (lv_at hl 1 rfl) ?_
      obtain ⟨x_5, hx_5, hf⟩ := y_bd hf
      refine yald1 F w hx_5 dX1_uncouple_26 ?_
      refine lv_if_ne (tgt := 38) hx hb dX1_uncouple_27 (by decide) (fun k_6 => ?_) (fun k_6 => ?_)
      · have hf := y_ifn k_6 hf
        refine lv_aload_n hx hb dX1_uncouple_38 rfl (lv_at hl 0 rfl) ?_
        refine lv_iload_n hx hb dX1_uncouple_39 rfl (lv_at hl 1 rfl) ?_
        obtain ⟨u_7, hu_7, hf⟩ := y_bd hf
        refine ycallI (n := 1) (r := u_7.1) (st2 := u_7.2) (rest := []) F hA (c1_last l D a1) gX1_uncouple_X1_last rfl (by decide +kernel) rfl ⟨Nat.le_of_ble_eq_true rfl, Nat.le_of_ble_eq_true rfl⟩ rfl hl.1 w hu_7 rfl (Nat.le_of_ble_eq_true rfl) ⟨Nat.zero_le _, Nat.zero_le _⟩ dX1_uncouple_40 (fun H locs w => ?_)
        refine lv_istore_n (lv' := [(2, .int u_7.1), (0, .ref h0), (1, .int a1)]) hx hb dX1_uncouple_43 rfl hl (by decide) rfl (fun ls hl => ?_)
        refine lv_aload_n hx hb dX1_uncouple_44 rfl (lv_at hl 1 rfl) ?_
        refine yget1 F hin1_uncouple w 1 (by decide) (by decide +kernel) (v := .ref q2) rfl dX1_uncouple_45 ?_
        refine lv_iload_n hx hb dX1_uncouple_48 rfl (lv_at hl 2 rfl) ?_
        refine lv_dup2_11 hx hb dX1_uncouple_49 rfl rfl ?_
        obtain ⟨x_8, hx_8, hf⟩ := y_bd hf
        refine yald1 F w hx_8 dX1_uncouple_50 ?_
        refine lv_iconst (v := 1) hx hb dX1_uncouple_51 (by decide) ?_
        refine lv_isub hx hb dX1_uncouple_52 ?_
        obtain ⟨st_9, hst_9, hf⟩ := y_bd hf
        refine yast1 F w hst_9 dX1_uncouple_53 (fun H locs w => ?_)
        refine lv_aload_n hx hb dX1_uncouple_54 rfl (lv_at hl 1 rfl) ?_
        refine lv_iconst (v := 1) hx hb dX1_uncouple_55 (by decide) ?_
        refine lv_iload_n hx hb dX1_uncouple_56 rfl (lv_at hl 0 rfl) ?_
        obtain ⟨u_10, hu_10, hf⟩ := y_bd hf
        refine ycallI (n := 2) (r := u_10.1) (st2 := u_10.2) (rest := []) F hA (c1_goes l D 1 u_7.1) gX1_uncouple_X1_goes rfl (by decide +kernel) rfl ⟨Nat.le_of_ble_eq_true rfl, Nat.le_of_ble_eq_true rfl⟩ rfl hl.1 w hu_10 rfl (Nat.le_of_ble_eq_true rfl) ⟨Nat.zero_le _, Nat.zero_le _⟩ dX1_uncouple_57 (fun H locs w => ?_)
        exact yret hret hf rfl w dX1_uncouple_60
      · have hf := y_ifp k_6 hf
        refine lv_aload_n hx hb dX1_uncouple_30 rfl (lv_at hl 0 rfl) ?_
        refine lv_iconst (v := 1) hx hb dX1_uncouple_31 (by decide) ?_
        refine lv_bipush (v := (-5)) hx hb dX1_uncouple_32 (by decide) ?_
        obtain ⟨u_11, hu_11, hf⟩ := y_bd hf
        refine ycallI (n := 2) (r := u_11.1) (st2 := u_11.2) (rest := []) F hA (c1_goes l D 1 (-5)) gX1_uncouple_X1_goes rfl (by decide +kernel) rfl ⟨Nat.le_of_ble_eq_true rfl, Nat.le_of_ble_eq_true rfl⟩ rfl hl.1 w hu_11 rfl (Nat.le_of_ble_eq_true rfl) ⟨Nat.zero_le _, Nat.zero_le _⟩ dX1_uncouple_34 (fun H locs w => ?_)
        exact yret hret hf rfl w dX1_uncouple_37
    · have hf := y_ifp k_4 hf
      refine lv_bipush (v := (-3)) hx hb dX1_uncouple_18 (by decide) ?_
      exact yret hret hf rfl w dX1_uncouple_20
  · have hf := y_ifp k_2 hf
    refine lv_bipush (v := (-2)) hx hb dX1_uncouple_7 (by decide) ?_
    exact yret hret hf rfl w dX1_uncouple_9
theorem hin1_shunt : ∀ w ∈ wsX10, w ∈ wsX1_shunt := by decide +kernel
set_option maxHeartbeats 4000000 in
set_option maxRecDepth 100000 in
theorem b1_shunt_L65 {l : Launch} {D : va_G} {h0 q1 q2 q3 : Nat} {cA : ClassId} {r : Int32} {st2 : St} {p : Program} {e : Env} {s : State} {m : MethodId} {args : Array Value} {below : List Frame} {meth : Method} {c : Code} {A : Nat → Prop} {Q : State → Prop} (F : CallFix p m c cX1_shunt 7 s args wsX1_shunt RX1) (hA : ∀ q, s.heap.size ≤ q → A q) (hret : yRetI D 1 h0 q1 q2 q3 cA p l e 2 s m args below meth c cX1_shunt A Q .int r st2) : ∀ (n : Nat) (v1 : Int32) (v2 : Int32) (v3 : Int32) (v4 : Int32) (v5 : Int32) (st : St), f1_shunt_L65 n v1 v2 v3 v4 v5 st = some (r, st2) → ∀ (H : Heap) (locs : List Loc) (ls : Array Slot), Wd D 1 h0 q1 q2 q3 cA A s st H locs → lv_has ls 7 [(0, .ref h0), (1, .int v1), (2, .int v2), (3, .int v3), (4, .int v4), (5, .int v5)] → W p l e (yrm 2) s m args below meth c H locs 0 0 Q (F0 m 65 ls []) := by
  have hx := F.1
  have hb := F.2.1
  intro n
  induction n with
  | zero =>
    intro v1 v2 v3 v4 v5 st hf
    rw [f1_shunt_L65] at hf
    cases hf
  | succ n ih =>
    intro v1 v2 v3 v4 v5 st hf H locs ls w hl
    rw [f1_shunt_L65] at hf
    refine lv_iload hx hb dX1_shunt_65 (lv_at hl 5 rfl) ?_
    refine lv_iload_n hx hb dX1_shunt_67 rfl (lv_at hl 3 rfl) ?_
    refine lv_icmp_ge (tgt := 154) hx hb dX1_shunt_68 (by decide) (fun k_12 => ?_) (fun k_12 => ?_)
    · have hf := y_ifp k_12 hf
      refine lv_aload_n hx hb dX1_shunt_154 rfl (lv_at hl 0 rfl) ?_
      refine lv_iconst (v := 2) hx hb dX1_shunt_155 (by decide) ?_
      refine lv_iload hx hb dX1_shunt_156 (lv_at hl 4 rfl) ?_
      obtain ⟨u_13, hu_13, hf⟩ := y_bd hf
      refine ycallI (n := 2) (r := u_13.1) (st2 := u_13.2) (rest := []) F hA (c1_goes l D 2 v4) gX1_shunt_X1_goes rfl (by decide +kernel) rfl ⟨Nat.le_of_ble_eq_true rfl, Nat.le_of_ble_eq_true rfl⟩ rfl hl.1 w hu_13 rfl (Nat.le_of_ble_eq_true rfl) ⟨Nat.zero_le _, Nat.zero_le _⟩ dX1_shunt_158 (fun H locs w => ?_)
      exact yret hret hf rfl w dX1_shunt_161
    · have hf := y_ifn k_12 hf
      refine lv_iload hx hb dX1_shunt_71 (lv_at hl 4 rfl) ?_
      refine lv_if_lt (tgt := 154) hx hb dX1_shunt_73 (by decide) (fun k_14 => ?_) (fun k_14 => ?_)
      · have hf := y_ifp k_14 hf
        refine lv_aload_n hx hb dX1_shunt_154 rfl (lv_at hl 0 rfl) ?_
        refine lv_iconst (v := 2) hx hb dX1_shunt_155 (by decide) ?_
        refine lv_iload hx hb dX1_shunt_156 (lv_at hl 4 rfl) ?_
        obtain ⟨u_15, hu_15, hf⟩ := y_bd hf
        refine ycallI (n := 2) (r := u_15.1) (st2 := u_15.2) (rest := []) F hA (c1_goes l D 2 v4) gX1_shunt_X1_goes rfl (by decide +kernel) rfl ⟨Nat.le_of_ble_eq_true rfl, Nat.le_of_ble_eq_true rfl⟩ rfl hl.1 w hu_15 rfl (Nat.le_of_ble_eq_true rfl) ⟨Nat.zero_le _, Nat.zero_le _⟩ dX1_shunt_158 (fun H locs w => ?_)
        exact yret hret hf rfl w dX1_shunt_161
      · have hf := y_ifn k_14 hf
        refine lv_aload_n hx hb dX1_shunt_76 rfl (lv_at hl 0 rfl) ?_
        refine yget1 F hin1_shunt w 1 (by decide) (by decide +kernel) (v := .ref q2) rfl dX1_shunt_77 ?_
        refine lv_iload_n hx hb dX1_shunt_80 rfl (lv_at hl 1 rfl) ?_
        obtain ⟨x_16, hx_16, hf⟩ := y_bd hf
        refine yald1 F w hx_16 dX1_shunt_81 ?_
        refine lv_if_ne (tgt := 92) hx hb dX1_shunt_82 (by decide) (fun k_17 => ?_) (fun k_17 => ?_)
        · have hf := y_ifn k_17 hf
          refine lv_aload_n hx hb dX1_shunt_92 rfl (lv_at hl 0 rfl) ?_
          refine lv_iload_n hx hb dX1_shunt_93 rfl (lv_at hl 1 rfl) ?_
          obtain ⟨u_18, hu_18, hf⟩ := y_bd hf
          refine ycallI (n := 1) (r := u_18.1) (st2 := u_18.2) (rest := []) F hA (c1_last l D v1) gX1_shunt_X1_last rfl (by decide +kernel) rfl ⟨Nat.le_of_ble_eq_true rfl, Nat.le_of_ble_eq_true rfl⟩ rfl hl.1 w hu_18 rfl (Nat.le_of_ble_eq_true rfl) ⟨Nat.zero_le _, Nat.zero_le _⟩ dX1_shunt_94 (fun H locs w => ?_)
          refine lv_istore (lv' := [(6, .int u_18.1), (0, .ref h0), (1, .int v1), (2, .int v2), (3, .int v3), (4, .int v4), (5, .int v5)]) hx hb dX1_shunt_97 hl (by decide) rfl (fun ls hl => ?_)
          refine lv_aload_n hx hb dX1_shunt_99 rfl (lv_at hl 1 rfl) ?_
          refine yget1 F hin1_shunt w 1 (by decide) (by decide +kernel) (v := .ref q2) rfl dX1_shunt_100 ?_
          refine lv_iload_n hx hb dX1_shunt_103 rfl (lv_at hl 2 rfl) ?_
          refine lv_dup2_11 hx hb dX1_shunt_104 rfl rfl ?_
          obtain ⟨x_19, hx_19, hf⟩ := y_bd hf
          refine yald1 F w hx_19 dX1_shunt_105 ?_
          refine lv_iconst (v := 1) hx hb dX1_shunt_106 (by decide) ?_
          refine lv_isub hx hb dX1_shunt_107 ?_
          obtain ⟨st_20, hst_20, hf⟩ := y_bd hf
          refine yast1 F w hst_20 dX1_shunt_108 (fun H locs w => ?_)
          refine lv_aload_n hx hb dX1_shunt_109 rfl (lv_at hl 1 rfl) ?_
          refine lv_iload_n hx hb dX1_shunt_110 rfl (lv_at hl 3 rfl) ?_
          obtain ⟨u_21, hu_21, hf⟩ := y_bd hf
          refine ycallI (n := 1) (r := u_21.1) (st2 := u_21.2) (rest := []) F hA (c1_isFull l D v2) gX1_shunt_X1_isFull rfl (by decide +kernel) rfl ⟨Nat.le_of_ble_eq_true rfl, Nat.le_of_ble_eq_true rfl⟩ rfl hl.1 w hu_21 rfl (Nat.le_of_ble_eq_true rfl) ⟨Nat.zero_le _, Nat.zero_le _⟩ dX1_shunt_111 (fun H locs w => ?_)
          refine lv_if_eq (tgt := 131) hx hb dX1_shunt_114 (by decide) (fun k_22 => ?_) (fun k_22 => ?_)
          · have hf := y_ifp k_22 hf
            refine lv_aload_n hx hb dX1_shunt_131 rfl (lv_at hl 1 rfl) ?_
            refine lv_iload_n hx hb dX1_shunt_132 rfl (lv_at hl 3 rfl) ?_
            refine lv_iload hx hb dX1_shunt_133 (lv_at hl 0 rfl) ?_
            obtain ⟨u_23, hu_23, hf⟩ := y_bd hf
            refine ycallV (n := 2) (r := u_23.1) (st2 := u_23.2) (rest := []) F hA (c1_come l D v2 u_18.1) gX1_shunt_X1_come rfl (by decide +kernel) rfl ⟨Nat.le_of_ble_eq_true rfl, Nat.le_of_ble_eq_true rfl⟩ rfl hl.1 w hu_23 rfl (Nat.le_of_ble_eq_true rfl) ⟨Nat.zero_le _, Nat.zero_le _⟩ dX1_shunt_135 (fun H locs w => ?_)
            refine lv_aload_n hx hb dX1_shunt_138 rfl (lv_at hl 1 rfl) ?_
            refine lv_dup hx hb dX1_shunt_139 rfl ?_
            refine yget1 F hin1_shunt w 8 (by decide) (by decide +kernel) (v := .int (yG8 u_23.2)) rfl dX1_shunt_140 ?_
            refine lv_iconst (v := 1) hx hb dX1_shunt_143 (by decide) ?_
            refine lv_iadd hx hb dX1_shunt_144 ?_
            obtain ⟨st_24, hst_24, hf⟩ := y_bd hf
            refine yput1_8 F hin1_shunt w (by decide +kernel) hst_24 dX1_shunt_145 (fun H locs w => ?_)
            refine lv_iinc (v := v5 + 1) (lv' := [(5, .int (v5 + 1)), (6, .int u_18.1), (0, .ref h0), (1, .int v1), (2, .int v2), (3, .int v3), (4, .int v4)]) hx hb dX1_shunt_148 hl (k := 6) rfl rfl (by decide) rfl (fun ls hl => ?_)
            refine lv_goto (tgt := 65) hx hb dX1_shunt_151 (by decide) ?_
            exact ih v1 v2 v3 v4 (v5 + 1) st_24 hf _ _ _ w (lv_sub hl [2, 3, 4, 5, 6, 0] rfl)
          · have hf := y_ifn k_22 hf
            refine lv_aload_n hx hb dX1_shunt_117 rfl (lv_at hl 1 rfl) ?_
            refine lv_iload_n hx hb dX1_shunt_118 rfl (lv_at hl 2 rfl) ?_
            refine lv_iload hx hb dX1_shunt_119 (lv_at hl 0 rfl) ?_
            obtain ⟨u_25, hu_25, hf⟩ := y_bd hf
            refine ycallV (n := 2) (r := u_25.1) (st2 := u_25.2) (rest := []) F hA (c1_come l D v1 u_18.1) gX1_shunt_X1_come rfl (by decide +kernel) rfl ⟨Nat.le_of_ble_eq_true rfl, Nat.le_of_ble_eq_true rfl⟩ rfl hl.1 w hu_25 rfl (Nat.le_of_ble_eq_true rfl) ⟨Nat.zero_le _, Nat.zero_le _⟩ dX1_shunt_121 (fun H locs w => ?_)
            refine lv_bipush (v := (-4)) hx hb dX1_shunt_124 (by decide) ?_
            refine lv_istore (lv' := [(4, .int (-4)), (6, .int u_18.1), (0, .ref h0), (1, .int v1), (2, .int v2), (3, .int v3), (5, .int v5)]) hx hb dX1_shunt_126 hl (by decide) rfl (fun ls hl => ?_)
            refine lv_goto (tgt := 148) hx hb dX1_shunt_128 (by decide) ?_
            refine lv_iinc (v := v5 + 1) (lv' := [(5, .int (v5 + 1)), (4, .int (-4)), (6, .int u_18.1), (0, .ref h0), (1, .int v1), (2, .int v2), (3, .int v3)]) hx hb dX1_shunt_148 hl (k := 6) rfl rfl (by decide) rfl (fun ls hl => ?_)
            refine lv_goto (tgt := 65) hx hb dX1_shunt_151 (by decide) ?_
            exact ih v1 v2 v3 (-4) (v5 + 1) u_25.2 hf _ _ _ w (lv_sub hl [3, 4, 5, 6, 1, 0] rfl)
        · have hf := y_ifp k_17 hf
          refine lv_bipush (v := (-5)) hx hb dX1_shunt_85 (by decide) ?_
          refine lv_istore (lv' := [(4, .int (-5)), (0, .ref h0), (1, .int v1), (2, .int v2), (3, .int v3), (5, .int v5)]) hx hb dX1_shunt_87 hl (by decide) rfl (fun ls hl => ?_)
          refine lv_goto (tgt := 148) hx hb dX1_shunt_89 (by decide) ?_
          refine lv_iinc (v := v5 + 1) (lv' := [(5, .int (v5 + 1)), (4, .int (-5)), (0, .ref h0), (1, .int v1), (2, .int v2), (3, .int v3)]) hx hb dX1_shunt_148 hl (k := 5) rfl rfl (by decide) rfl (fun ls hl => ?_)
          refine lv_goto (tgt := 65) hx hb dX1_shunt_151 (by decide) ?_
          exact ih v1 v2 v3 (-5) (v5 + 1) st hf _ _ _ w (lv_sub hl [2, 3, 4, 5, 1, 0] rfl)
set_option maxHeartbeats 4000000 in
set_option maxRecDepth 100000 in
theorem c1_shunt (l : Launch) (D : va_G) (a1 : Int32) (a2 : Int32) (a3 : Int32) : yMet l D 1 yX1_shunt wsX1_shunt 2 [.int a1, .int a2, .int a3] (f1_shunt a1 a2 a3) := by
  refine yentI (cc := cX1_shunt) (nL := 7) (ret := .int) (by decide) rfl (fun _ => Nat.le_of_ble_eq_true rfl) ?_
  intro h0 q1 q2 q3 cA r st2 p e s m args below meth c A Q F hA hret st hf H locs ls w hl
  have F : CallFix p m c cX1_shunt 7 s args wsX1_shunt RX1 := F
  have hx := F.1
  have hb := F.2.1
  have hl : lv_has ls 7 [(0, .ref h0), (1, .int a1), (2, .int a2), (3, .int a3)] := hl
  unfold f1_shunt at hf
  refine lv_iload_n hx hb dX1_shunt_0 rfl (lv_at hl 1 rfl) ?_
  obtain ⟨u_1, hu_1, hf⟩ := y_bd hf
  refine ycallSW (n := 1) (rest := []) F hA (c1_isTrack l a1) gX1_shunt_X1_isTrack rfl (by decide +kernel) ⟨Nat.le_of_ble_eq_true rfl, Nat.le_of_ble_eq_true rfl⟩ rfl hl.1 w hu_1 rfl (Nat.le_of_ble_eq_true rfl) ⟨Nat.zero_le _, Nat.zero_le _⟩ dX1_shunt_1 (fun H locs w => ?_)
  refine lv_if_eq (tgt := 24) hx hb dX1_shunt_4 (by decide) (fun k_2 => ?_) (fun k_2 => ?_)
  · have hf := y_ifp k_2 hf
    refine lv_bipush (v := (-2)) hx hb dX1_shunt_24 (by decide) ?_
    exact yret hret hf rfl w dX1_shunt_26
  · have hf := y_ifn k_2 hf
    refine lv_iload_n hx hb dX1_shunt_7 rfl (lv_at hl 2 rfl) ?_
    obtain ⟨u_3, hu_3, hf⟩ := y_bd hf
    refine ycallSW (n := 1) (rest := []) F hA (c1_isTrack l a2) gX1_shunt_X1_isTrack rfl (by decide +kernel) ⟨Nat.le_of_ble_eq_true rfl, Nat.le_of_ble_eq_true rfl⟩ rfl hl.1 w hu_3 rfl (Nat.le_of_ble_eq_true rfl) ⟨Nat.zero_le _, Nat.zero_le _⟩ dX1_shunt_8 (fun H locs w => ?_)
    refine lv_if_eq (tgt := 24) hx hb dX1_shunt_11 (by decide) (fun k_4 => ?_) (fun k_4 => ?_)
    · have hf := y_ifp k_4 hf
      refine lv_bipush (v := (-2)) hx hb dX1_shunt_24 (by decide) ?_
      exact yret hret hf rfl w dX1_shunt_26
    · have hf := y_ifn k_4 hf
      refine lv_iload_n hx hb dX1_shunt_14 rfl (lv_at hl 3 rfl) ?_
      refine lv_iconst (v := 0) hx hb dX1_shunt_15 (by decide) ?_
      refine lv_bipush (v := 20) hx hb dX1_shunt_16 (by decide) ?_
      obtain ⟨u_5, hu_5, hf⟩ := y_bd hf
      refine ycallSW (n := 3) (rest := []) F hA (c1_in l a3 0 20) gX1_shunt_X1_in rfl (by decide +kernel) ⟨Nat.le_of_ble_eq_true rfl, Nat.le_of_ble_eq_true rfl⟩ rfl hl.1 w hu_5 rfl (Nat.le_of_ble_eq_true rfl) ⟨Nat.zero_le _, Nat.zero_le _⟩ dX1_shunt_18 (fun H locs w => ?_)
      refine lv_if_ne (tgt := 27) hx hb dX1_shunt_21 (by decide) (fun k_6 => ?_) (fun k_6 => ?_)
      · have hf := y_ifn k_6 hf
        refine lv_aload_n hx hb dX1_shunt_27 rfl (lv_at hl 0 rfl) ?_
        refine lv_iconst (v := 0) hx hb dX1_shunt_28 (by decide) ?_
        obtain ⟨st_7, hst_7, hf⟩ := y_bd hf
        refine yput1_8 F hin1_shunt w (by decide +kernel) hst_7 dX1_shunt_29 (fun H locs w => ?_)
        refine lv_aload_n hx hb dX1_shunt_32 rfl (lv_at hl 0 rfl) ?_
        refine lv_iload_n hx hb dX1_shunt_33 rfl (lv_at hl 1 rfl) ?_
        obtain ⟨u_8, hu_8, hf⟩ := y_bd hf
        refine ycallI (n := 1) (r := u_8.1) (st2 := u_8.2) (rest := []) F hA (c1_holds l D a1) gX1_shunt_X1_holds rfl (by decide +kernel) rfl ⟨Nat.le_of_ble_eq_true rfl, Nat.le_of_ble_eq_true rfl⟩ rfl hl.1 w hu_8 rfl (Nat.le_of_ble_eq_true rfl) ⟨Nat.zero_le _, Nat.zero_le _⟩ dX1_shunt_34 (fun H locs w => ?_)
        refine lv_if_ne (tgt := 43) hx hb dX1_shunt_37 (by decide) (fun k_9 => ?_) (fun k_9 => ?_)
        · have hf := y_ifn k_9 hf
          refine lv_aload_n hx hb dX1_shunt_43 rfl (lv_at hl 0 rfl) ?_
          refine lv_iload_n hx hb dX1_shunt_44 rfl (lv_at hl 2 rfl) ?_
          obtain ⟨u_10, hu_10, hf⟩ := y_bd hf
          refine ycallI (n := 1) (r := u_10.1) (st2 := u_10.2) (rest := []) F hA (c1_holds l D a2) gX1_shunt_X1_holds rfl (by decide +kernel) rfl ⟨Nat.le_of_ble_eq_true rfl, Nat.le_of_ble_eq_true rfl⟩ rfl hl.1 w hu_10 rfl (Nat.le_of_ble_eq_true rfl) ⟨Nat.zero_le _, Nat.zero_le _⟩ dX1_shunt_45 (fun H locs w => ?_)
          refine lv_if_ne (tgt := 59) hx hb dX1_shunt_48 (by decide) (fun k_11 => ?_) (fun k_11 => ?_)
          · have hf := y_ifn k_11 hf
            refine lv_iload_n hx hb dX1_shunt_59 rfl (lv_at hl 3 rfl) ?_
            refine lv_istore (lv' := [(4, .int a3), (0, .ref h0), (1, .int a1), (2, .int a2), (3, .int a3)]) hx hb dX1_shunt_60 hl (by decide) rfl (fun ls hl => ?_)
            refine lv_iconst (v := 0) hx hb dX1_shunt_62 (by decide) ?_
            refine lv_istore (lv' := [(5, .int 0), (4, .int a3), (0, .ref h0), (1, .int a1), (2, .int a2), (3, .int a3)]) hx hb dX1_shunt_63 hl (by decide) rfl (fun ls hl => ?_)
            exact b1_shunt_L65 F hA hret 40 a1 a2 a3 a3 0 u_10.2 hf _ _ _ w (lv_sub hl [2, 3, 4, 5, 1, 0] rfl)
          · have hf := y_ifp k_11 hf
            refine lv_aload_n hx hb dX1_shunt_51 rfl (lv_at hl 0 rfl) ?_
            refine lv_iconst (v := 1) hx hb dX1_shunt_52 (by decide) ?_
            refine lv_bipush (v := (-3)) hx hb dX1_shunt_53 (by decide) ?_
            obtain ⟨u_26, hu_26, hf⟩ := y_bd hf
            refine ycallI (n := 2) (r := u_26.1) (st2 := u_26.2) (rest := []) F hA (c1_goes l D 1 (-3)) gX1_shunt_X1_goes rfl (by decide +kernel) rfl ⟨Nat.le_of_ble_eq_true rfl, Nat.le_of_ble_eq_true rfl⟩ rfl hl.1 w hu_26 rfl (Nat.le_of_ble_eq_true rfl) ⟨Nat.zero_le _, Nat.zero_le _⟩ dX1_shunt_55 (fun H locs w => ?_)
            exact yret hret hf rfl w dX1_shunt_58
        · have hf := y_ifp k_9 hf
          refine lv_bipush (v := (-3)) hx hb dX1_shunt_40 (by decide) ?_
          exact yret hret hf rfl w dX1_shunt_42
      · have hf := y_ifp k_6 hf
        refine lv_bipush (v := (-2)) hx hb dX1_shunt_24 (by decide) ?_
        exact yret hret hf rfl w dX1_shunt_26
theorem hin1_sweep : ∀ w ∈ wsX10, w ∈ wsX1_sweep := by decide +kernel
set_option maxHeartbeats 4000000 in
set_option maxRecDepth 100000 in
theorem b1_sweep_L53 {l : Launch} {D : va_G} {h0 q1 q2 q3 : Nat} {cA : ClassId} {r : Int32} {st2 : St} {p : Program} {e : Env} {s : State} {m : MethodId} {args : Array Value} {below : List Frame} {meth : Method} {c : Code} {A : Nat → Prop} {Q : State → Prop} (F : CallFix p m c cX1_sweep 8 s args wsX1_sweep RX1) (hA : ∀ q, s.heap.size ≤ q → A q) (hret : yRetI D 1 h0 q1 q2 q3 cA p l e 2 s m args below meth c cX1_sweep A Q .int r st2) : ∀ (n : Nat) (v1 : Int32) (v2 : Int32) (v3 : Int32) (v4 : Int32) (st : St), f1_sweep_L53 n v1 v2 v3 v4 st = some (r, st2) → ∀ (H : Heap) (locs : List Loc) (ls : Array Slot), Wd D 1 h0 q1 q2 q3 cA A s st H locs → lv_has ls 8 [(0, .ref h0), (1, .int v1), (2, .int v2), (3, .int v3), (4, .int v4)] → W p l e (yrm 2) s m args below meth c H locs 0 0 Q (F0 m 53 ls []) := by
  have hx := F.1
  have hb := F.2.1
  intro n
  induction n with
  | zero =>
    intro v1 v2 v3 v4 st hf
    rw [f1_sweep_L53] at hf
    cases hf
  | succ n ih =>
    intro v1 v2 v3 v4 st hf H locs ls w hl
    rw [f1_sweep_L53] at hf
    refine lv_iload hx hb dX1_sweep_53 (lv_at hl 4 rfl) ?_
    refine lv_if_eq (tgt := 200) hx hb dX1_sweep_55 (by decide) (fun k_12 => ?_) (fun k_12 => ?_)
    · have hf := y_ifp k_12 hf
      refine lv_aload_n hx hb dX1_sweep_200 rfl (lv_at hl 0 rfl) ?_
      refine lv_iconst (v := 1) hx hb dX1_sweep_201 (by decide) ?_
      refine lv_aload_n hx hb dX1_sweep_202 rfl (lv_at hl 0 rfl) ?_
      refine yget1 F hin1_sweep w 8 (by decide) (by decide +kernel) (v := .int (yG8 st)) rfl dX1_sweep_203 ?_
      obtain ⟨u_13, hu_13, hf⟩ := y_bd hf
      refine ycallI (n := 2) (r := u_13.1) (st2 := u_13.2) (rest := []) F hA (c1_goes l D 1 (yG8 st)) gX1_sweep_X1_goes rfl (by decide +kernel) rfl ⟨Nat.le_of_ble_eq_true rfl, Nat.le_of_ble_eq_true rfl⟩ rfl hl.1 w hu_13 rfl (Nat.le_of_ble_eq_true rfl) ⟨Nat.zero_le _, Nat.zero_le _⟩ dX1_sweep_206 (fun H locs w => ?_)
      exact yret hret hf rfl w dX1_sweep_209
    · have hf := y_ifn k_12 hf
      refine lv_aload_n hx hb dX1_sweep_58 rfl (lv_at hl 0 rfl) ?_
      refine yget1 F hin1_sweep w 1 (by decide) (by decide +kernel) (v := .ref q2) rfl dX1_sweep_59 ?_
      refine lv_iload_n hx hb dX1_sweep_62 rfl (lv_at hl 1 rfl) ?_
      obtain ⟨x_14, hx_14, hf⟩ := y_bd hf
      refine yald1 F w hx_14 dX1_sweep_63 ?_
      refine lv_if_le (tgt := 200) hx hb dX1_sweep_64 (by decide) (fun k_15 => ?_) (fun k_15 => ?_)
      · have hf := y_ifp k_15 hf
        refine lv_aload_n hx hb dX1_sweep_200 rfl (lv_at hl 0 rfl) ?_
        refine lv_iconst (v := 1) hx hb dX1_sweep_201 (by decide) ?_
        refine lv_aload_n hx hb dX1_sweep_202 rfl (lv_at hl 0 rfl) ?_
        refine yget1 F hin1_sweep w 8 (by decide) (by decide +kernel) (v := .int (yG8 st)) rfl dX1_sweep_203 ?_
        obtain ⟨u_16, hu_16, hf⟩ := y_bd hf
        refine ycallI (n := 2) (r := u_16.1) (st2 := u_16.2) (rest := []) F hA (c1_goes l D 1 (yG8 st)) gX1_sweep_X1_goes rfl (by decide +kernel) rfl ⟨Nat.le_of_ble_eq_true rfl, Nat.le_of_ble_eq_true rfl⟩ rfl hl.1 w hu_16 rfl (Nat.le_of_ble_eq_true rfl) ⟨Nat.zero_le _, Nat.zero_le _⟩ dX1_sweep_206 (fun H locs w => ?_)
        exact yret hret hf rfl w dX1_sweep_209
      · have hf := y_ifn k_15 hf
        refine lv_aload_n hx hb dX1_sweep_67 rfl (lv_at hl 0 rfl) ?_
        refine lv_iload_n hx hb dX1_sweep_68 rfl (lv_at hl 1 rfl) ?_
        obtain ⟨u_17, hu_17, hf⟩ := y_bd hf
        refine ycallI (n := 1) (r := u_17.1) (st2 := u_17.2) (rest := []) F hA (c1_last l D v1) gX1_sweep_X1_last rfl (by decide +kernel) rfl ⟨Nat.le_of_ble_eq_true rfl, Nat.le_of_ble_eq_true rfl⟩ rfl hl.1 w hu_17 rfl (Nat.le_of_ble_eq_true rfl) ⟨Nat.zero_le _, Nat.zero_le _⟩ dX1_sweep_69 (fun H locs w => ?_)
        refine lv_istore (lv' := [(5, .int u_17.1), (0, .ref h0), (1, .int v1), (2, .int v2), (3, .int v3), (4, .int v4)]) hx hb dX1_sweep_72 hl (by decide) rfl (fun ls hl => ?_)
        refine lv_aload_n hx hb dX1_sweep_74 rfl (lv_at hl 1 rfl) ?_
        refine yget1 F hin1_sweep w 1 (by decide) (by decide +kernel) (v := .ref q2) rfl dX1_sweep_75 ?_
        refine lv_iload_n hx hb dX1_sweep_78 rfl (lv_at hl 2 rfl) ?_
        refine lv_dup2_11 hx hb dX1_sweep_79 rfl rfl ?_
        obtain ⟨x_18, hx_18, hf⟩ := y_bd hf
        refine yald1 F w hx_18 dX1_sweep_80 ?_
        refine lv_iconst (v := 1) hx hb dX1_sweep_81 (by decide) ?_
        refine lv_isub hx hb dX1_sweep_82 ?_
        obtain ⟨st_19, hst_19, hf⟩ := y_bd hf
        refine yast1 F w hst_19 dX1_sweep_83 (fun H locs w => ?_)
        refine lv_iload hx hb dX1_sweep_84 (lv_at hl 0 rfl) ?_
        refine lv_bipush (v := 10) hx hb dX1_sweep_86 (by decide) ?_
        refine lv_irem hx hb dX1_sweep_88 (by decide) ?_
        refine lv_if_ne (tgt := 98) hx hb dX1_sweep_89 (by decide) (fun k_20 => ?_) (fun k_20 => ?_)
        · have hf := y_ifn k_20 hf
          refine lv_iload hx hb dX1_sweep_98 (lv_at hl 0 rfl) ?_
          refine lv_bipush (v := 10) hx hb dX1_sweep_100 (by decide) ?_
          refine lv_irem hx hb dX1_sweep_102 (by decide) ?_
          refine lv_bipush (v := 9) hx hb dX1_sweep_103 (by decide) ?_
          refine lv_icmp_eq (tgt := 197) hx hb dX1_sweep_105 (by decide) (fun k_21 => ?_) (fun k_21 => ?_)
          · have hf := y_ifp k_21 hf
            refine lv_goto (tgt := 53) hx hb dX1_sweep_197 (by decide) ?_
            exact ih v1 v2 v3 v4 st_19 hf _ _ _ w (lv_sub hl [1, 2, 3, 4, 5] rfl)
          · have hf := y_ifn k_21 hf
            refine lv_iload hx hb dX1_sweep_108 (lv_at hl 0 rfl) ?_
            refine lv_iconst (v := 2) hx hb dX1_sweep_110 (by decide) ?_
            refine lv_irem hx hb dX1_sweep_111 (by decide) ?_
            refine lv_iconst (v := 1) hx hb dX1_sweep_112 (by decide) ?_
            refine lv_icmp_ne (tgt := 120) hx hb dX1_sweep_113 (by decide) (fun k_22 => ?_) (fun k_22 => ?_)
            · have hf := y_ifn k_22 hf
              refine lv_iload_n hx hb dX1_sweep_120 rfl (lv_at hl 4 rfl) ?_
              refine lv_istore (lv' := [(6, .int v3), (5, .int u_17.1), (0, .ref h0), (1, .int v1), (2, .int v2), (3, .int v3), (4, .int v4)]) hx hb dX1_sweep_121 hl (by decide) rfl (fun ls hl => ?_)
              refine lv_aload_n hx hb dX1_sweep_123 rfl (lv_at hl 2 rfl) ?_
              refine lv_iload hx hb dX1_sweep_124 (lv_at hl 0 rfl) ?_
              obtain ⟨u_23, hu_23, hf⟩ := y_bd hf
              refine ycallI (n := 1) (r := u_23.1) (st2 := u_23.2) (rest := []) F hA (c1_holds l D v3) gX1_sweep_X1_holds rfl (by decide +kernel) rfl ⟨Nat.le_of_ble_eq_true rfl, Nat.le_of_ble_eq_true rfl⟩ rfl hl.1 w hu_23 rfl (Nat.le_of_ble_eq_true rfl) ⟨Nat.zero_le _, Nat.zero_le _⟩ dX1_sweep_126 (fun H locs w => ?_)
              refine lv_if_ne (tgt := 147) hx hb dX1_sweep_129 (by decide) (fun k_24 => ?_) (fun k_24 => ?_)
              · have hf := y_ifn k_24 hf
                refine lv_aload_n hx hb dX1_sweep_147 rfl (lv_at hl 2 rfl) ?_
                refine lv_iload hx hb dX1_sweep_148 (lv_at hl 0 rfl) ?_
                obtain ⟨u_25, hu_25, hf⟩ := y_bd hf
                refine ycallI (n := 1) (r := u_25.1) (st2 := u_25.2) (rest := []) F hA (c1_isFull l D v3) gX1_sweep_X1_isFull rfl (by decide +kernel) rfl ⟨Nat.le_of_ble_eq_true rfl, Nat.le_of_ble_eq_true rfl⟩ rfl hl.1 w hu_25 rfl (Nat.le_of_ble_eq_true rfl) ⟨Nat.zero_le _, Nat.zero_le _⟩ dX1_sweep_150 (fun H locs w => ?_)
                refine lv_if_eq (tgt := 171) hx hb dX1_sweep_153 (by decide) (fun k_26 => ?_) (fun k_26 => ?_)
                · have hf := y_ifp k_26 hf
                  refine lv_aload_n hx hb dX1_sweep_171 rfl (lv_at hl 2 rfl) ?_
                  refine lv_iload hx hb dX1_sweep_172 (lv_at hl 0 rfl) ?_
                  refine lv_iload hx hb dX1_sweep_174 (lv_at hl 1 rfl) ?_
                  obtain ⟨u_27, hu_27, hf⟩ := y_bd hf
                  refine ycallV (n := 2) (r := u_27.1) (st2 := u_27.2) (rest := []) F hA (c1_come l D v3 u_17.1) gX1_sweep_X1_come rfl (by decide +kernel) rfl ⟨Nat.le_of_ble_eq_true rfl, Nat.le_of_ble_eq_true rfl⟩ rfl hl.1 w hu_27 rfl (Nat.le_of_ble_eq_true rfl) ⟨Nat.zero_le _, Nat.zero_le _⟩ dX1_sweep_176 (fun H locs w => ?_)
                  refine lv_aload_n hx hb dX1_sweep_179 rfl (lv_at hl 2 rfl) ?_
                  refine lv_dup hx hb dX1_sweep_180 rfl ?_
                  refine yget1 F hin1_sweep w 8 (by decide) (by decide +kernel) (v := .int (yG8 u_27.2)) rfl dX1_sweep_181 ?_
                  refine lv_iconst (v := 1) hx hb dX1_sweep_184 (by decide) ?_
                  refine lv_iadd hx hb dX1_sweep_185 ?_
                  obtain ⟨st_28, hst_28, hf⟩ := y_bd hf
                  refine yput1_8 F hin1_sweep w (by decide +kernel) hst_28 dX1_sweep_186 (fun H locs w => ?_)
                  refine lv_aload_n hx hb dX1_sweep_189 rfl (lv_at hl 2 rfl) ?_
                  refine lv_iconst (v := 1) hx hb dX1_sweep_190 (by decide) ?_
                  refine lv_iconst (v := 0) hx hb dX1_sweep_191 (by decide) ?_
                  obtain ⟨u_29, hu_29, hf⟩ := y_bd hf
                  refine ycallI (n := 2) (r := u_29.1) (st2 := u_29.2) (rest := []) F hA (c1_goes l D 1 0) gX1_sweep_X1_goes rfl (by decide +kernel) rfl ⟨Nat.le_of_ble_eq_true rfl, Nat.le_of_ble_eq_true rfl⟩ rfl hl.1 w hu_29 rfl (Nat.le_of_ble_eq_true rfl) ⟨Nat.zero_le _, Nat.zero_le _⟩ dX1_sweep_192 (fun H locs w => ?_)
                  refine lv_istore (lv' := [(7, .int u_29.1), (6, .int v3), (5, .int u_17.1), (0, .ref h0), (1, .int v1), (2, .int v2), (3, .int v3), (4, .int v4)]) hx hb dX1_sweep_195 hl (by decide) rfl (fun ls hl => ?_)
                  refine lv_goto (tgt := 53) hx hb dX1_sweep_197 (by decide) ?_
                  exact ih v1 v2 v3 v4 u_29.2 hf _ _ _ w (lv_sub hl [3, 4, 5, 6, 7] rfl)
                · have hf := y_ifn k_26 hf
                  refine lv_aload_n hx hb dX1_sweep_156 rfl (lv_at hl 2 rfl) ?_
                  refine lv_iload_n hx hb dX1_sweep_157 rfl (lv_at hl 3 rfl) ?_
                  refine lv_iload hx hb dX1_sweep_158 (lv_at hl 1 rfl) ?_
                  obtain ⟨u_30, hu_30, hf⟩ := y_bd hf
                  refine ycallV (n := 2) (r := u_30.1) (st2 := u_30.2) (rest := []) F hA (c1_come l D v1 u_17.1) gX1_sweep_X1_come rfl (by decide +kernel) rfl ⟨Nat.le_of_ble_eq_true rfl, Nat.le_of_ble_eq_true rfl⟩ rfl hl.1 w hu_30 rfl (Nat.le_of_ble_eq_true rfl) ⟨Nat.zero_le _, Nat.zero_le _⟩ dX1_sweep_160 (fun H locs w => ?_)
                  refine lv_aload_n hx hb dX1_sweep_163 rfl (lv_at hl 2 rfl) ?_
                  refine lv_iconst (v := 2) hx hb dX1_sweep_164 (by decide) ?_
                  refine lv_bipush (v := (-4)) hx hb dX1_sweep_165 (by decide) ?_
                  obtain ⟨u_31, hu_31, hf⟩ := y_bd hf
                  refine ycallI (n := 2) (r := u_31.1) (st2 := u_31.2) (rest := []) F hA (c1_goes l D 2 (-4)) gX1_sweep_X1_goes rfl (by decide +kernel) rfl ⟨Nat.le_of_ble_eq_true rfl, Nat.le_of_ble_eq_true rfl⟩ rfl hl.1 w hu_31 rfl (Nat.le_of_ble_eq_true rfl) ⟨Nat.zero_le _, Nat.zero_le _⟩ dX1_sweep_167 (fun H locs w => ?_)
                  exact yret hret hf rfl w dX1_sweep_170
              · have hf := y_ifp k_24 hf
                refine lv_aload_n hx hb dX1_sweep_132 rfl (lv_at hl 2 rfl) ?_
                refine lv_iload_n hx hb dX1_sweep_133 rfl (lv_at hl 3 rfl) ?_
                refine lv_iload hx hb dX1_sweep_134 (lv_at hl 1 rfl) ?_
                obtain ⟨u_32, hu_32, hf⟩ := y_bd hf
                refine ycallV (n := 2) (r := u_32.1) (st2 := u_32.2) (rest := []) F hA (c1_come l D v1 u_17.1) gX1_sweep_X1_come rfl (by decide +kernel) rfl ⟨Nat.le_of_ble_eq_true rfl, Nat.le_of_ble_eq_true rfl⟩ rfl hl.1 w hu_32 rfl (Nat.le_of_ble_eq_true rfl) ⟨Nat.zero_le _, Nat.zero_le _⟩ dX1_sweep_136 (fun H locs w => ?_)
                refine lv_aload_n hx hb dX1_sweep_139 rfl (lv_at hl 2 rfl) ?_
                refine lv_iconst (v := 1) hx hb dX1_sweep_140 (by decide) ?_
                refine lv_bipush (v := (-3)) hx hb dX1_sweep_141 (by decide) ?_
                obtain ⟨u_33, hu_33, hf⟩ := y_bd hf
                refine ycallI (n := 2) (r := u_33.1) (st2 := u_33.2) (rest := []) F hA (c1_goes l D 1 (-3)) gX1_sweep_X1_goes rfl (by decide +kernel) rfl ⟨Nat.le_of_ble_eq_true rfl, Nat.le_of_ble_eq_true rfl⟩ rfl hl.1 w hu_33 rfl (Nat.le_of_ble_eq_true rfl) ⟨Nat.zero_le _, Nat.zero_le _⟩ dX1_sweep_143 (fun H locs w => ?_)
                exact yret hret hf rfl w dX1_sweep_146
            · have hf := y_ifp k_22 hf
              refine lv_iload_n hx hb dX1_sweep_116 rfl (lv_at hl 3 rfl) ?_
              refine lv_goto (tgt := 121) hx hb dX1_sweep_117 (by decide) ?_
              refine lv_istore (lv' := [(6, .int v2), (5, .int u_17.1), (0, .ref h0), (1, .int v1), (2, .int v2), (3, .int v3), (4, .int v4)]) hx hb dX1_sweep_121 hl (by decide) rfl (fun ls hl => ?_)
              refine lv_aload_n hx hb dX1_sweep_123 rfl (lv_at hl 2 rfl) ?_
              refine lv_iload hx hb dX1_sweep_124 (lv_at hl 0 rfl) ?_
              obtain ⟨u_34, hu_34, hf⟩ := y_bd hf
              refine ycallI (n := 1) (r := u_34.1) (st2 := u_34.2) (rest := []) F hA (c1_holds l D v2) gX1_sweep_X1_holds rfl (by decide +kernel) rfl ⟨Nat.le_of_ble_eq_true rfl, Nat.le_of_ble_eq_true rfl⟩ rfl hl.1 w hu_34 rfl (Nat.le_of_ble_eq_true rfl) ⟨Nat.zero_le _, Nat.zero_le _⟩ dX1_sweep_126 (fun H locs w => ?_)
              refine lv_if_ne (tgt := 147) hx hb dX1_sweep_129 (by decide) (fun k_35 => ?_) (fun k_35 => ?_)
              · have hf := y_ifn k_35 hf
                refine lv_aload_n hx hb dX1_sweep_147 rfl (lv_at hl 2 rfl) ?_
                refine lv_iload hx hb dX1_sweep_148 (lv_at hl 0 rfl) ?_
                obtain ⟨u_36, hu_36, hf⟩ := y_bd hf
                refine ycallI (n := 1) (r := u_36.1) (st2 := u_36.2) (rest := []) F hA (c1_isFull l D v2) gX1_sweep_X1_isFull rfl (by decide +kernel) rfl ⟨Nat.le_of_ble_eq_true rfl, Nat.le_of_ble_eq_true rfl⟩ rfl hl.1 w hu_36 rfl (Nat.le_of_ble_eq_true rfl) ⟨Nat.zero_le _, Nat.zero_le _⟩ dX1_sweep_150 (fun H locs w => ?_)
                refine lv_if_eq (tgt := 171) hx hb dX1_sweep_153 (by decide) (fun k_37 => ?_) (fun k_37 => ?_)
                · have hf := y_ifp k_37 hf
                  refine lv_aload_n hx hb dX1_sweep_171 rfl (lv_at hl 2 rfl) ?_
                  refine lv_iload hx hb dX1_sweep_172 (lv_at hl 0 rfl) ?_
                  refine lv_iload hx hb dX1_sweep_174 (lv_at hl 1 rfl) ?_
                  obtain ⟨u_38, hu_38, hf⟩ := y_bd hf
                  refine ycallV (n := 2) (r := u_38.1) (st2 := u_38.2) (rest := []) F hA (c1_come l D v2 u_17.1) gX1_sweep_X1_come rfl (by decide +kernel) rfl ⟨Nat.le_of_ble_eq_true rfl, Nat.le_of_ble_eq_true rfl⟩ rfl hl.1 w hu_38 rfl (Nat.le_of_ble_eq_true rfl) ⟨Nat.zero_le _, Nat.zero_le _⟩ dX1_sweep_176 (fun H locs w => ?_)
                  refine lv_aload_n hx hb dX1_sweep_179 rfl (lv_at hl 2 rfl) ?_
                  refine lv_dup hx hb dX1_sweep_180 rfl ?_
                  refine yget1 F hin1_sweep w 8 (by decide) (by decide +kernel) (v := .int (yG8 u_38.2)) rfl dX1_sweep_181 ?_
                  refine lv_iconst (v := 1) hx hb dX1_sweep_184 (by decide) ?_
                  refine lv_iadd hx hb dX1_sweep_185 ?_
                  obtain ⟨st_39, hst_39, hf⟩ := y_bd hf
                  refine yput1_8 F hin1_sweep w (by decide +kernel) hst_39 dX1_sweep_186 (fun H locs w => ?_)
                  refine lv_aload_n hx hb dX1_sweep_189 rfl (lv_at hl 2 rfl) ?_
                  refine lv_iconst (v := 1) hx hb dX1_sweep_190 (by decide) ?_
                  refine lv_iconst (v := 0) hx hb dX1_sweep_191 (by decide) ?_
                  obtain ⟨u_40, hu_40, hf⟩ := y_bd hf
                  refine ycallI (n := 2) (r := u_40.1) (st2 := u_40.2) (rest := []) F hA (c1_goes l D 1 0) gX1_sweep_X1_goes rfl (by decide +kernel) rfl ⟨Nat.le_of_ble_eq_true rfl, Nat.le_of_ble_eq_true rfl⟩ rfl hl.1 w hu_40 rfl (Nat.le_of_ble_eq_true rfl) ⟨Nat.zero_le _, Nat.zero_le _⟩ dX1_sweep_192 (fun H locs w => ?_)
                  refine lv_istore (lv' := [(7, .int u_40.1), (6, .int v2), (5, .int u_17.1), (0, .ref h0), (1, .int v1), (2, .int v2), (3, .int v3), (4, .int v4)]) hx hb dX1_sweep_195 hl (by decide) rfl (fun ls hl => ?_)
                  refine lv_goto (tgt := 53) hx hb dX1_sweep_197 (by decide) ?_
                  exact ih v1 v2 v3 v4 u_40.2 hf _ _ _ w (lv_sub hl [3, 4, 5, 6, 7] rfl)
                · have hf := y_ifn k_37 hf
                  refine lv_aload_n hx hb dX1_sweep_156 rfl (lv_at hl 2 rfl) ?_
                  refine lv_iload_n hx hb dX1_sweep_157 rfl (lv_at hl 3 rfl) ?_
                  refine lv_iload hx hb dX1_sweep_158 (lv_at hl 1 rfl) ?_
                  obtain ⟨u_41, hu_41, hf⟩ := y_bd hf
                  refine ycallV (n := 2) (r := u_41.1) (st2 := u_41.2) (rest := []) F hA (c1_come l D v1 u_17.1) gX1_sweep_X1_come rfl (by decide +kernel) rfl ⟨Nat.le_of_ble_eq_true rfl, Nat.le_of_ble_eq_true rfl⟩ rfl hl.1 w hu_41 rfl (Nat.le_of_ble_eq_true rfl) ⟨Nat.zero_le _, Nat.zero_le _⟩ dX1_sweep_160 (fun H locs w => ?_)
                  refine lv_aload_n hx hb dX1_sweep_163 rfl (lv_at hl 2 rfl) ?_
                  refine lv_iconst (v := 2) hx hb dX1_sweep_164 (by decide) ?_
                  refine lv_bipush (v := (-4)) hx hb dX1_sweep_165 (by decide) ?_
                  obtain ⟨u_42, hu_42, hf⟩ := y_bd hf
                  refine ycallI (n := 2) (r := u_42.1) (st2 := u_42.2) (rest := []) F hA (c1_goes l D 2 (-4)) gX1_sweep_X1_goes rfl (by decide +kernel) rfl ⟨Nat.le_of_ble_eq_true rfl, Nat.le_of_ble_eq_true rfl⟩ rfl hl.1 w hu_42 rfl (Nat.le_of_ble_eq_true rfl) ⟨Nat.zero_le _, Nat.zero_le _⟩ dX1_sweep_167 (fun H locs w => ?_)
                  exact yret hret hf rfl w dX1_sweep_170
              · have hf := y_ifp k_35 hf
                refine lv_aload_n hx hb dX1_sweep_132 rfl (lv_at hl 2 rfl) ?_
                refine lv_iload_n hx hb dX1_sweep_133 rfl (lv_at hl 3 rfl) ?_
                refine lv_iload hx hb dX1_sweep_134 (lv_at hl 1 rfl) ?_
                obtain ⟨u_43, hu_43, hf⟩ := y_bd hf
                refine ycallV (n := 2) (r := u_43.1) (st2 := u_43.2) (rest := []) F hA (c1_come l D v1 u_17.1) gX1_sweep_X1_come rfl (by decide +kernel) rfl ⟨Nat.le_of_ble_eq_true rfl, Nat.le_of_ble_eq_true rfl⟩ rfl hl.1 w hu_43 rfl (Nat.le_of_ble_eq_true rfl) ⟨Nat.zero_le _, Nat.zero_le _⟩ dX1_sweep_136 (fun H locs w => ?_)
                refine lv_aload_n hx hb dX1_sweep_139 rfl (lv_at hl 2 rfl) ?_
                refine lv_iconst (v := 1) hx hb dX1_sweep_140 (by decide) ?_
                refine lv_bipush (v := (-3)) hx hb dX1_sweep_141 (by decide) ?_
                obtain ⟨u_44, hu_44, hf⟩ := y_bd hf
                refine ycallI (n := 2) (r := u_44.1) (st2 := u_44.2) (rest := []) F hA (c1_goes l D 1 (-3)) gX1_sweep_X1_goes rfl (by decide +kernel) rfl ⟨Nat.le_of_ble_eq_true rfl, Nat.le_of_ble_eq_true rfl⟩ rfl hl.1 w hu_44 rfl (Nat.le_of_ble_eq_true rfl) ⟨Nat.zero_le _, Nat.zero_le _⟩ dX1_sweep_143 (fun H locs w => ?_)
                exact yret hret hf rfl w dX1_sweep_146
        · have hf := y_ifp k_20 hf
          refine lv_iconst (v := 0) hx hb dX1_sweep_92 (by decide) ?_
          refine lv_istore (lv' := [(4, .int 0), (5, .int u_17.1), (0, .ref h0), (1, .int v1), (2, .int v2), (3, .int v3)]) hx hb dX1_sweep_93 hl (by decide) rfl (fun ls hl => ?_)
          refine lv_goto (tgt := 197) hx hb dX1_sweep_95 (by decide) ?_
          refine lv_goto (tgt := 53) hx hb dX1_sweep_197 (by decide) ?_
          exact ih v1 v2 v3 0 st_19 hf _ _ _ w (lv_sub hl [2, 3, 4, 5, 0] rfl)
set_option maxHeartbeats 4000000 in
set_option maxRecDepth 100000 in
theorem c1_sweep (l : Launch) (D : va_G) (a1 : Int32) (a2 : Int32) (a3 : Int32) : yMet l D 1 yX1_sweep wsX1_sweep 2 [.int a1, .int a2, .int a3] (f1_sweep a1 a2 a3) := by
  refine yentI (cc := cX1_sweep) (nL := 8) (ret := .int) (by decide) rfl (fun _ => Nat.le_of_ble_eq_true rfl) ?_
  intro h0 q1 q2 q3 cA r st2 p e s m args below meth c A Q F hA hret st hf H locs ls w hl
  have F : CallFix p m c cX1_sweep 8 s args wsX1_sweep RX1 := F
  have hx := F.1
  have hb := F.2.1
  have hl : lv_has ls 8 [(0, .ref h0), (1, .int a1), (2, .int a2), (3, .int a3)] := hl
  unfold f1_sweep at hf
  refine lv_iload_n hx hb dX1_sweep_0 rfl (lv_at hl 1 rfl) ?_
  obtain ⟨u_1, hu_1, hf⟩ := y_bd hf
  refine ycallSW (n := 1) (rest := []) F hA (c1_isTrack l a1) gX1_sweep_X1_isTrack rfl (by decide +kernel) ⟨Nat.le_of_ble_eq_true rfl, Nat.le_of_ble_eq_true rfl⟩ rfl hl.1 w hu_1 rfl (Nat.le_of_ble_eq_true rfl) ⟨Nat.zero_le _, Nat.zero_le _⟩ dX1_sweep_1 (fun H locs w => ?_)
  refine lv_if_eq (tgt := 31) hx hb dX1_sweep_4 (by decide) (fun k_2 => ?_) (fun k_2 => ?_)
  · have hf := y_ifp k_2 hf
    refine lv_bipush (v := (-2)) hx hb dX1_sweep_31 (by decide) ?_
    exact yret hret hf rfl w dX1_sweep_33
  · have hf := y_ifn k_2 hf
    refine lv_iload_n hx hb dX1_sweep_7 rfl (lv_at hl 2 rfl) ?_
    obtain ⟨u_3, hu_3, hf⟩ := y_bd hf
    refine ycallSW (n := 1) (rest := []) F hA (c1_isTrack l a2) gX1_sweep_X1_isTrack rfl (by decide +kernel) ⟨Nat.le_of_ble_eq_true rfl, Nat.le_of_ble_eq_true rfl⟩ rfl hl.1 w hu_3 rfl (Nat.le_of_ble_eq_true rfl) ⟨Nat.zero_le _, Nat.zero_le _⟩ dX1_sweep_8 (fun H locs w => ?_)
    refine lv_if_eq (tgt := 31) hx hb dX1_sweep_11 (by decide) (fun k_4 => ?_) (fun k_4 => ?_)
    · have hf := y_ifp k_4 hf
      refine lv_bipush (v := (-2)) hx hb dX1_sweep_31 (by decide) ?_
      exact yret hret hf rfl w dX1_sweep_33
    · have hf := y_ifn k_4 hf
      refine lv_iload_n hx hb dX1_sweep_14 rfl (lv_at hl 3 rfl) ?_
      obtain ⟨u_5, hu_5, hf⟩ := y_bd hf
      refine ycallSW (n := 1) (rest := []) F hA (c1_isTrack l a3) gX1_sweep_X1_isTrack rfl (by decide +kernel) ⟨Nat.le_of_ble_eq_true rfl, Nat.le_of_ble_eq_true rfl⟩ rfl hl.1 w hu_5 rfl (Nat.le_of_ble_eq_true rfl) ⟨Nat.zero_le _, Nat.zero_le _⟩ dX1_sweep_15 (fun H locs w => ?_)
      refine lv_if_eq (tgt := 31) hx hb dX1_sweep_18 (by decide) (fun k_6 => ?_) (fun k_6 => ?_)
      · have hf := y_ifp k_6 hf
        refine lv_bipush (v := (-2)) hx hb dX1_sweep_31 (by decide) ?_
        exact yret hret hf rfl w dX1_sweep_33
      · have hf := y_ifn k_6 hf
        refine lv_iload_n hx hb dX1_sweep_21 rfl (lv_at hl 1 rfl) ?_
        refine lv_iload_n hx hb dX1_sweep_22 rfl (lv_at hl 2 rfl) ?_
        refine lv_icmp_eq (tgt := 31) hx hb dX1_sweep_23 (by decide) (fun k_7 => ?_) (fun k_7 => ?_)
        · have hf := y_ifp k_7 hf
          refine lv_bipush (v := (-2)) hx hb dX1_sweep_31 (by decide) ?_
          exact yret hret hf rfl w dX1_sweep_33
        · have hf := y_ifn k_7 hf
          refine lv_iload_n hx hb dX1_sweep_26 rfl (lv_at hl 1 rfl) ?_
          refine lv_iload_n hx hb dX1_sweep_27 rfl (lv_at hl 3 rfl) ?_
          refine lv_icmp_ne (tgt := 34) hx hb dX1_sweep_28 (by decide) (fun k_8 => ?_) (fun k_8 => ?_)
          · have hf := y_ifn k_8 hf
            refine lv_aload_n hx hb dX1_sweep_34 rfl (lv_at hl 0 rfl) ?_
            refine lv_iconst (v := 0) hx hb dX1_sweep_35 (by decide) ?_
            obtain ⟨st_9, hst_9, hf⟩ := y_bd hf
            refine yput1_8 F hin1_sweep w (by decide +kernel) hst_9 dX1_sweep_36 (fun H locs w => ?_)
            refine lv_aload_n hx hb dX1_sweep_39 rfl (lv_at hl 0 rfl) ?_
            refine lv_iload_n hx hb dX1_sweep_40 rfl (lv_at hl 1 rfl) ?_
            obtain ⟨u_10, hu_10, hf⟩ := y_bd hf
            refine ycallI (n := 1) (r := u_10.1) (st2 := u_10.2) (rest := []) F hA (c1_holds l D a1) gX1_sweep_X1_holds rfl (by decide +kernel) rfl ⟨Nat.le_of_ble_eq_true rfl, Nat.le_of_ble_eq_true rfl⟩ rfl hl.1 w hu_10 rfl (Nat.le_of_ble_eq_true rfl) ⟨Nat.zero_le _, Nat.zero_le _⟩ dX1_sweep_41 (fun H locs w => ?_)
            refine lv_if_ne (tgt := 50) hx hb dX1_sweep_44 (by decide) (fun k_11 => ?_) (fun k_11 => ?_)
            · have hf := y_ifn k_11 hf
              refine lv_iconst (v := 1) hx hb dX1_sweep_50 (by decide) ?_
              refine lv_istore (lv' := [(4, .int 1), (0, .ref h0), (1, .int a1), (2, .int a2), (3, .int a3)]) hx hb dX1_sweep_51 hl (by decide) rfl (fun ls hl => ?_)
              exact b1_sweep_L53 F hA hret 40 a1 a2 a3 1 u_10.2 hf _ _ _ w (lv_sub hl [1, 2, 3, 4, 0] rfl)
            · have hf := y_ifp k_11 hf
              refine lv_bipush (v := (-3)) hx hb dX1_sweep_47 (by decide) ?_
              exact yret hret hf rfl w dX1_sweep_49
          · have hf := y_ifp k_8 hf
            refine lv_bipush (v := (-2)) hx hb dX1_sweep_31 (by decide) ?_
            exact yret hret hf rfl w dX1_sweep_33
theorem hin1_tour : ∀ w ∈ wsX10, w ∈ wsX1_tour := by decide +kernel
set_option maxHeartbeats 4000000 in
set_option maxRecDepth 100000 in
theorem b1_tour_L27 {l : Launch} {D : va_G} {h0 q1 q2 q3 : Nat} {cA : ClassId} {r : Int32} {st2 : St} {p : Program} {e : Env} {s : State} {m : MethodId} {args : Array Value} {below : List Frame} {meth : Method} {c : Code} {A : Nat → Prop} {Q : State → Prop} (F : CallFix p m c cX1_tour 9 s args wsX1_tour RX1) (hA : ∀ q, s.heap.size ≤ q → A q) (hret : yRetI D 1 h0 q1 q2 q3 cA p l e 1 s m args below meth c cX1_tour A Q .int r st2) : ∀ (n : Nat) (v1 : Int64) (v3 : Int32) (v4 : Int32) (v5 : Int32) (v6 : Int32) (st : St), f1_tour_L27 n v1 v3 v4 v5 v6 st = some (r, st2) → ∀ (H : Heap) (locs : List Loc) (ls : Array Slot), Wd D 1 h0 q1 q2 q3 cA A s st H locs → lv_has ls 9 [(0, .ref h0), (1, .long v1), (3, .int v3), (4, .int v4), (5, .int v5), (6, .int v6)] → W p l e (yrm 1) s m args below meth c H locs 0 0 Q (F0 m 27 ls []) := by
  have hx := F.1
  have hb := F.2.1
  intro n
  induction n with
  | zero =>
    intro v1 v3 v4 v5 v6 st hf
    rw [f1_tour_L27] at hf
    cases hf
  | succ n ih =>
    intro v1 v3 v4 v5 v6 st hf H locs ls w hl
    rw [f1_tour_L27] at hf
    refine lv_iload hx hb dX1_tour_27 (lv_at hl 5 rfl) ?_
    refine lv_iload_n hx hb dX1_tour_29 rfl (lv_at hl 2 rfl) ?_
    refine lv_icmp_ge (tgt := 134) hx hb dX1_tour_30 (by decide) (fun k_4 => ?_) (fun k_4 => ?_)
    · have hf := y_ifp k_4 hf
      refine lv_iload hx hb dX1_tour_134 (lv_at hl 3 rfl) ?_
      exact yret hret hf rfl w dX1_tour_136
    · have hf := y_ifn k_4 hf
      refine lv_iload hx hb dX1_tour_33 (lv_at hl 4 rfl) ?_
      refine lv_if_eq (tgt := 134) hx hb dX1_tour_35 (by decide) (fun k_5 => ?_) (fun k_5 => ?_)
      · have hf := y_ifp k_5 hf
        refine lv_iload hx hb dX1_tour_134 (lv_at hl 3 rfl) ?_
        exact yret hret hf rfl w dX1_tour_136
      · have hf := y_ifn k_5 hf
        refine lv_lload_n hx hb dX1_tour_38 rfl (lv_at hl 1 rfl) ?_
        refine lv_iload hx hb dX1_tour_39 (lv_at hl 5 rfl) ?_
        obtain ⟨u_6, hu_6, hf⟩ := y_bd hf
        refine ycallSW (n := 2) (rest := []) F hA (c1_trackOf l v1 v6) gX1_tour_X1_trackOf rfl (by decide +kernel) ⟨Nat.le_of_ble_eq_true rfl, Nat.le_of_ble_eq_true rfl⟩ rfl hl.1 w hu_6 rfl (Nat.le_of_ble_eq_true rfl) ⟨Nat.zero_le _, Nat.zero_le _⟩ dX1_tour_41 (fun H locs w => ?_)
        refine lv_istore (lv' := [(7, .int u_6), (0, .ref h0), (1, .long v1), (3, .int v3), (4, .int v4), (5, .int v5), (6, .int v6)]) hx hb dX1_tour_44 hl (by decide) rfl (fun ls hl => ?_)
        refine lv_aload_n hx hb dX1_tour_46 rfl (lv_at hl 1 rfl) ?_
        refine lv_iload hx hb dX1_tour_47 (lv_at hl 0 rfl) ?_
        obtain ⟨u_7, hu_7, hf⟩ := y_bd hf
        refine ycallI (n := 1) (r := u_7.1) (st2 := u_7.2) (rest := []) F hA (c1_holds l D u_6) gX1_tour_X1_holds rfl (by decide +kernel) rfl ⟨Nat.le_of_ble_eq_true rfl, Nat.le_of_ble_eq_true rfl⟩ rfl hl.1 w hu_7 rfl (Nat.le_of_ble_eq_true rfl) ⟨Nat.zero_le _, Nat.zero_le _⟩ dX1_tour_49 (fun H locs w => ?_)
        refine lv_if_ne (tgt := 58) hx hb dX1_tour_52 (by decide) (fun k_8 => ?_) (fun k_8 => ?_)
        · have hf := y_ifn k_8 hf
          refine lv_aload_n hx hb dX1_tour_58 rfl (lv_at hl 1 rfl) ?_
          refine yget1 F hin1_tour w 1 (by decide) (by decide +kernel) (v := .ref q2) rfl dX1_tour_59 ?_
          refine lv_iload hx hb dX1_tour_62 (lv_at hl 0 rfl) ?_
          obtain ⟨x_9, hx_9, hf⟩ := y_bd hf
          refine yald1 F w hx_9 dX1_tour_64 ?_
          refine lv_if_ne (tgt := 74) hx hb dX1_tour_65 (by decide) (fun k_10 => ?_) (fun k_10 => ?_)
          · have hf := y_ifn k_10 hf
            refine lv_aload_n hx hb dX1_tour_74 rfl (lv_at hl 1 rfl) ?_
            refine lv_iload hx hb dX1_tour_75 (lv_at hl 0 rfl) ?_
            obtain ⟨u_11, hu_11, hf⟩ := y_bd hf
            refine ycallI (n := 1) (r := u_11.1) (st2 := u_11.2) (rest := []) F hA (c1_last l D u_6) gX1_tour_X1_last rfl (by decide +kernel) rfl ⟨Nat.le_of_ble_eq_true rfl, Nat.le_of_ble_eq_true rfl⟩ rfl hl.1 w hu_11 rfl (Nat.le_of_ble_eq_true rfl) ⟨Nat.zero_le _, Nat.zero_le _⟩ dX1_tour_77 (fun H locs w => ?_)
            refine lv_bipush (v := 10) hx hb dX1_tour_80 (by decide) ?_
            refine lv_irem hx hb dX1_tour_82 (by decide) ?_
            refine lv_bipush (v := 9) hx hb dX1_tour_83 (by decide) ?_
            refine lv_icmp_eq (tgt := 120) hx hb dX1_tour_85 (by decide) (fun k_12 => ?_) (fun k_12 => ?_)
            · have hf := y_ifp k_12 hf
              refine lv_aload_n hx hb dX1_tour_120 rfl (lv_at hl 1 rfl) ?_
              refine lv_iconst (v := 1) hx hb dX1_tour_121 (by decide) ?_
              refine lv_iconst (v := 0) hx hb dX1_tour_122 (by decide) ?_
              obtain ⟨u_13, hu_13, hf⟩ := y_bd hf
              refine ycallI (n := 2) (r := u_13.1) (st2 := u_13.2) (rest := []) F hA (c1_goes l D 1 0) gX1_tour_X1_goes rfl (by decide +kernel) rfl ⟨Nat.le_of_ble_eq_true rfl, Nat.le_of_ble_eq_true rfl⟩ rfl hl.1 w hu_13 rfl (Nat.le_of_ble_eq_true rfl) ⟨Nat.zero_le _, Nat.zero_le _⟩ dX1_tour_123 (fun H locs w => ?_)
              refine lv_istore (lv' := [(8, .int u_13.1), (7, .int u_6), (0, .ref h0), (1, .long v1), (3, .int v3), (4, .int v4), (5, .int v5), (6, .int v6)]) hx hb dX1_tour_126 hl (by decide) rfl (fun ls hl => ?_)
              refine lv_iinc (v := v6 + 1) (lv' := [(6, .int (v6 + 1)), (8, .int u_13.1), (7, .int u_6), (0, .ref h0), (1, .long v1), (3, .int v3), (4, .int v4), (5, .int v5)]) hx hb dX1_tour_128 hl (k := 7) rfl rfl (by decide) rfl (fun ls hl => ?_)
              refine lv_goto (tgt := 27) hx hb dX1_tour_131 (by decide) ?_
              exact ih v1 v3 v4 v5 (v6 + 1) u_13.2 hf _ _ _ w (lv_sub hl [3, 4, 5, 6, 7, 0] rfl)
            · have hf := y_ifn k_12 hf
              refine lv_iload hx hb dX1_tour_88 (lv_at hl 4 rfl) ?_
              refine lv_aload_n hx hb dX1_tour_90 rfl (lv_at hl 1 rfl) ?_
              refine lv_iload hx hb dX1_tour_91 (lv_at hl 0 rfl) ?_
              obtain ⟨u_14, hu_14, hf⟩ := y_bd hf
              refine ycallI (n := 1) (r := u_14.1) (st2 := u_14.2) (rest := [.int v4]) F hA (c1_last l D u_6) gX1_tour_X1_last rfl (by decide +kernel) rfl ⟨Nat.le_of_ble_eq_true rfl, Nat.le_of_ble_eq_true rfl⟩ rfl hl.1 w hu_14 rfl (Nat.le_of_ble_eq_true rfl) ⟨Nat.zero_le _, Nat.zero_le _⟩ dX1_tour_93 (fun H locs w => ?_)
              refine lv_iadd hx hb dX1_tour_96 ?_
              refine lv_istore (lv' := [(4, .int (v4 + u_14.1)), (7, .int u_6), (0, .ref h0), (1, .long v1), (3, .int v3), (5, .int v5), (6, .int v6)]) hx hb dX1_tour_97 hl (by decide) rfl (fun ls hl => ?_)
              refine lv_aload_n hx hb dX1_tour_99 rfl (lv_at hl 2 rfl) ?_
              refine yget1 F hin1_tour w 1 (by decide) (by decide +kernel) (v := .ref q2) rfl dX1_tour_100 ?_
              refine lv_iload hx hb dX1_tour_103 (lv_at hl 1 rfl) ?_
              refine lv_dup2_11 hx hb dX1_tour_105 rfl rfl ?_
              obtain ⟨x_15, hx_15, hf⟩ := y_bd hf
              refine yald1 F w hx_15 dX1_tour_106 ?_
              refine lv_iconst (v := 1) hx hb dX1_tour_107 (by decide) ?_
              refine lv_isub hx hb dX1_tour_108 ?_
              obtain ⟨st_16, hst_16, hf⟩ := y_bd hf
              refine yast1 F w hst_16 dX1_tour_109 (fun H locs w => ?_)
              refine lv_aload_n hx hb dX1_tour_110 rfl (lv_at hl 2 rfl) ?_
              refine lv_dup hx hb dX1_tour_111 rfl ?_
              refine yget1 F hin1_tour w 8 (by decide) (by decide +kernel) (v := .int (yG8 st_16)) rfl dX1_tour_112 ?_
              refine lv_iconst (v := 1) hx hb dX1_tour_115 (by decide) ?_
              refine lv_iadd hx hb dX1_tour_116 ?_
              obtain ⟨st_17, hst_17, hf⟩ := y_bd hf
              refine yput1_8 F hin1_tour w (by decide +kernel) hst_17 dX1_tour_117 (fun H locs w => ?_)
              refine lv_aload_n hx hb dX1_tour_120 rfl (lv_at hl 2 rfl) ?_
              refine lv_iconst (v := 1) hx hb dX1_tour_121 (by decide) ?_
              refine lv_iconst (v := 0) hx hb dX1_tour_122 (by decide) ?_
              obtain ⟨u_18, hu_18, hf⟩ := y_bd hf
              refine ycallI (n := 2) (r := u_18.1) (st2 := u_18.2) (rest := []) F hA (c1_goes l D 1 0) gX1_tour_X1_goes rfl (by decide +kernel) rfl ⟨Nat.le_of_ble_eq_true rfl, Nat.le_of_ble_eq_true rfl⟩ rfl hl.1 w hu_18 rfl (Nat.le_of_ble_eq_true rfl) ⟨Nat.zero_le _, Nat.zero_le _⟩ dX1_tour_123 (fun H locs w => ?_)
              refine lv_istore (lv' := [(8, .int u_18.1), (4, .int (v4 + u_14.1)), (7, .int u_6), (0, .ref h0), (1, .long v1), (3, .int v3), (5, .int v5), (6, .int v6)]) hx hb dX1_tour_126 hl (by decide) rfl (fun ls hl => ?_)
              refine lv_iinc (v := v6 + 1) (lv' := [(6, .int (v6 + 1)), (8, .int u_18.1), (4, .int (v4 + u_14.1)), (7, .int u_6), (0, .ref h0), (1, .long v1), (3, .int v3), (5, .int v5)]) hx hb dX1_tour_128 hl (k := 7) rfl rfl (by decide) rfl (fun ls hl => ?_)
              refine lv_goto (tgt := 27) hx hb dX1_tour_131 (by decide) ?_
              exact ih v1 v3 (v4 + u_14.1) v5 (v6 + 1) u_18.2 hf _ _ _ w (lv_sub hl [4, 5, 6, 2, 7, 0] rfl)
          · have hf := y_ifp k_10 hf
            refine lv_iconst (v := 0) hx hb dX1_tour_68 (by decide) ?_
            refine lv_istore (lv' := [(5, .int 0), (7, .int u_6), (0, .ref h0), (1, .long v1), (3, .int v3), (4, .int v4), (6, .int v6)]) hx hb dX1_tour_69 hl (by decide) rfl (fun ls hl => ?_)
            refine lv_goto (tgt := 120) hx hb dX1_tour_71 (by decide) ?_
            refine lv_aload_n hx hb dX1_tour_120 rfl (lv_at hl 2 rfl) ?_
            refine lv_iconst (v := 1) hx hb dX1_tour_121 (by decide) ?_
            refine lv_iconst (v := 0) hx hb dX1_tour_122 (by decide) ?_
            obtain ⟨u_19, hu_19, hf⟩ := y_bd hf
            refine ycallI (n := 2) (r := u_19.1) (st2 := u_19.2) (rest := []) F hA (c1_goes l D 1 0) gX1_tour_X1_goes rfl (by decide +kernel) rfl ⟨Nat.le_of_ble_eq_true rfl, Nat.le_of_ble_eq_true rfl⟩ rfl hl.1 w hu_19 rfl (Nat.le_of_ble_eq_true rfl) ⟨Nat.zero_le _, Nat.zero_le _⟩ dX1_tour_123 (fun H locs w => ?_)
            refine lv_istore (lv' := [(8, .int u_19.1), (5, .int 0), (7, .int u_6), (0, .ref h0), (1, .long v1), (3, .int v3), (4, .int v4), (6, .int v6)]) hx hb dX1_tour_126 hl (by decide) rfl (fun ls hl => ?_)
            refine lv_iinc (v := v6 + 1) (lv' := [(6, .int (v6 + 1)), (8, .int u_19.1), (5, .int 0), (7, .int u_6), (0, .ref h0), (1, .long v1), (3, .int v3), (4, .int v4)]) hx hb dX1_tour_128 hl (k := 7) rfl rfl (by decide) rfl (fun ls hl => ?_)
            refine lv_goto (tgt := 27) hx hb dX1_tour_131 (by decide) ?_
            exact ih v1 v3 v4 0 (v6 + 1) u_19.2 hf _ _ _ w (lv_sub hl [4, 5, 6, 7, 2, 0] rfl)
        · have hf := y_ifp k_8 hf
          refine lv_bipush (v := (-3)) hx hb dX1_tour_55 (by decide) ?_
          exact yret hret hf rfl w dX1_tour_57
set_option maxHeartbeats 4000000 in
set_option maxRecDepth 100000 in
theorem c1_tour (l : Launch) (D : va_G) (a1 : Int64) (a3 : Int32) : yMet l D 1 yX1_tour wsX1_tour 1 [.long a1, .int a3] (f1_tour a1 a3) := by
  refine yentI (cc := cX1_tour) (nL := 9) (ret := .int) (by decide) rfl (fun _ => Nat.le_of_ble_eq_true rfl) ?_
  intro h0 q1 q2 q3 cA r st2 p e s m args below meth c A Q F hA hret st hf H locs ls w hl
  have F : CallFix p m c cX1_tour 9 s args wsX1_tour RX1 := F
  have hx := F.1
  have hb := F.2.1
  have hl : lv_has ls 9 [(0, .ref h0), (1, .long a1), (3, .int a3)] := hl
  unfold f1_tour at hf
  refine lv_iload_n hx hb dX1_tour_0 rfl (lv_at hl 2 rfl) ?_
  refine lv_iconst (v := 1) hx hb dX1_tour_1 (by decide) ?_
  refine lv_bipush (v := 16) hx hb dX1_tour_2 (by decide) ?_
  obtain ⟨u_1, hu_1, hf⟩ := y_bd hf
  refine ycallSW (n := 3) (rest := []) F hA (c1_in l a3 1 16) gX1_tour_X1_in rfl (by decide +kernel) ⟨Nat.le_of_ble_eq_true rfl, Nat.le_of_ble_eq_true rfl⟩ rfl hl.1 w hu_1 rfl (Nat.le_of_ble_eq_true rfl) ⟨Nat.zero_le _, Nat.zero_le _⟩ dX1_tour_4 (fun H locs w => ?_)
  refine lv_if_ne (tgt := 13) hx hb dX1_tour_7 (by decide) (fun k_2 => ?_) (fun k_2 => ?_)
  · have hf := y_ifn k_2 hf
    refine lv_aload_n hx hb dX1_tour_13 rfl (lv_at hl 0 rfl) ?_
    refine lv_iconst (v := 0) hx hb dX1_tour_14 (by decide) ?_
    obtain ⟨st_3, hst_3, hf⟩ := y_bd hf
    refine yput1_8 F hin1_tour w (by decide +kernel) hst_3 dX1_tour_15 (fun H locs w => ?_)
    refine lv_iconst (v := 0) hx hb dX1_tour_18 (by decide) ?_
    refine lv_istore (lv' := [(4, .int 0), (0, .ref h0), (1, .long a1), (3, .int a3)]) hx hb dX1_tour_19 hl (by decide) rfl (fun ls hl => ?_)
    refine lv_iconst (v := 1) hx hb dX1_tour_21 (by decide) ?_
    refine lv_istore (lv' := [(5, .int 1), (4, .int 0), (0, .ref h0), (1, .long a1), (3, .int a3)]) hx hb dX1_tour_22 hl (by decide) rfl (fun ls hl => ?_)
    refine lv_iconst (v := 0) hx hb dX1_tour_24 (by decide) ?_
    refine lv_istore (lv' := [(6, .int 0), (5, .int 1), (4, .int 0), (0, .ref h0), (1, .long a1), (3, .int a3)]) hx hb dX1_tour_25 hl (by decide) rfl (fun ls hl => ?_)
    exact b1_tour_L27 F hA hret 40 a1 a3 0 1 0 st_3 hf _ _ _ w (lv_sub hl [3, 4, 5, 2, 1, 0] rfl)
  · have hf := y_ifp k_2 hf
    refine lv_bipush (v := (-2)) hx hb dX1_tour_10 (by decide) ?_
    exact yret hret hf rfl w dX1_tour_12
theorem hin1_chain : ∀ w ∈ wsX10, w ∈ wsX1_chain := by decide +kernel
set_option maxHeartbeats 4000000 in
set_option maxRecDepth 100000 in
theorem b1_chain_L19 {l : Launch} {D : va_G} {h0 q1 q2 q3 : Nat} {cA : ClassId} {r : Int32} {st2 : St} {p : Program} {e : Env} {s : State} {m : MethodId} {args : Array Value} {below : List Frame} {meth : Method} {c : Code} {A : Nat → Prop} {Q : State → Prop} (F : CallFix p m c cX1_chain 7 s args wsX1_chain RX1) (hA : ∀ q, s.heap.size ≤ q → A q) (hret : yRetI D 1 h0 q1 q2 q3 cA p l e 1 s m args below meth c cX1_chain A Q .int r st2) : ∀ (n : Nat) (v1 : Int64) (v3 : Int32) (v4 : Int32) (v5 : Int32) (st : St), f1_chain_L19 n v1 v3 v4 v5 st = some (r, st2) → ∀ (H : Heap) (locs : List Loc) (ls : Array Slot), Wd D 1 h0 q1 q2 q3 cA A s st H locs → lv_has ls 7 [(0, .ref h0), (1, .long v1), (3, .int v3), (4, .int v4), (5, .int v5)] → W p l e (yrm 1) s m args below meth c H locs 0 0 Q (F0 m 19 ls []) := by
  have hx := F.1
  have hb := F.2.1
  intro n
  induction n with
  | zero =>
    intro v1 v3 v4 v5 st hf
    rw [f1_chain_L19] at hf
    cases hf
  | succ n ih =>
    intro v1 v3 v4 v5 st hf H locs ls w hl
    rw [f1_chain_L19] at hf
    refine lv_iload hx hb dX1_chain_19 (lv_at hl 4 rfl) ?_
    refine lv_iload_n hx hb dX1_chain_21 rfl (lv_at hl 2 rfl) ?_
    refine lv_icmp_ge (tgt := 69) hx hb dX1_chain_22 (by decide) (fun k_3 => ?_) (fun k_3 => ?_)
    · have hf := y_ifp k_3 hf
      refine lv_aload_n hx hb dX1_chain_69 rfl (lv_at hl 0 rfl) ?_
      refine lv_iload_n hx hb dX1_chain_70 rfl (lv_at hl 2 rfl) ?_
      refine lv_iload hx hb dX1_chain_71 (lv_at hl 3 rfl) ?_
      obtain ⟨u_4, hu_4, hf⟩ := y_bd hf
      refine ycallI (n := 2) (r := u_4.1) (st2 := u_4.2) (rest := []) F hA (c1_goes l D v3 v4) gX1_chain_X1_goes rfl (by decide +kernel) rfl ⟨Nat.le_of_ble_eq_true rfl, Nat.le_of_ble_eq_true rfl⟩ rfl hl.1 w hu_4 rfl (Nat.le_of_ble_eq_true rfl) ⟨Nat.zero_le _, Nat.zero_le _⟩ dX1_chain_73 (fun H locs w => ?_)
      exact yret hret hf rfl w dX1_chain_76
    · have hf := y_ifn k_3 hf
      refine lv_lload_n hx hb dX1_chain_25 rfl (lv_at hl 1 rfl) ?_
      refine lv_iload hx hb dX1_chain_26 (lv_at hl 4 rfl) ?_
      obtain ⟨u_5, hu_5, hf⟩ := y_bd hf
      refine ycallSW (n := 2) (rest := []) F hA (c1_trackOf l v1 v5) gX1_chain_X1_trackOf rfl (by decide +kernel) ⟨Nat.le_of_ble_eq_true rfl, Nat.le_of_ble_eq_true rfl⟩ rfl hl.1 w hu_5 rfl (Nat.le_of_ble_eq_true rfl) ⟨Nat.zero_le _, Nat.zero_le _⟩ dX1_chain_28 (fun H locs w => ?_)
      refine lv_istore (lv' := [(6, .int u_5), (0, .ref h0), (1, .long v1), (3, .int v3), (4, .int v4), (5, .int v5)]) hx hb dX1_chain_31 hl (by decide) rfl (fun ls hl => ?_)
      refine lv_aload_n hx hb dX1_chain_33 rfl (lv_at hl 1 rfl) ?_
      refine lv_iload hx hb dX1_chain_34 (lv_at hl 0 rfl) ?_
      obtain ⟨u_6, hu_6, hf⟩ := y_bd hf
      refine ycallI (n := 1) (r := u_6.1) (st2 := u_6.2) (rest := []) F hA (c1_holds l D u_5) gX1_chain_X1_holds rfl (by decide +kernel) rfl ⟨Nat.le_of_ble_eq_true rfl, Nat.le_of_ble_eq_true rfl⟩ rfl hl.1 w hu_6 rfl (Nat.le_of_ble_eq_true rfl) ⟨Nat.zero_le _, Nat.zero_le _⟩ dX1_chain_36 (fun H locs w => ?_)
      refine lv_if_ne (tgt := 51) hx hb dX1_chain_39 (by decide) (fun k_7 => ?_) (fun k_7 => ?_)
      · have hf := y_ifn k_7 hf
        refine lv_iload hx hb dX1_chain_51 (lv_at hl 4 rfl) ?_
        refine lv_aload_n hx hb dX1_chain_53 rfl (lv_at hl 1 rfl) ?_
        refine yget1 F hin1_chain w 1 (by decide) (by decide +kernel) (v := .ref q2) rfl dX1_chain_54 ?_
        refine lv_iload hx hb dX1_chain_57 (lv_at hl 0 rfl) ?_
        obtain ⟨x_8, hx_8, hf⟩ := y_bd hf
        refine yald1 F w hx_8 dX1_chain_59 ?_
        refine lv_iadd hx hb dX1_chain_60 ?_
        refine lv_istore (lv' := [(4, .int (v4 + x_8)), (6, .int u_5), (0, .ref h0), (1, .long v1), (3, .int v3), (5, .int v5)]) hx hb dX1_chain_61 hl (by decide) rfl (fun ls hl => ?_)
        refine lv_iinc (v := v5 + 1) (lv' := [(5, .int (v5 + 1)), (4, .int (v4 + x_8)), (6, .int u_5), (0, .ref h0), (1, .long v1), (3, .int v3)]) hx hb dX1_chain_63 hl (k := 5) rfl rfl (by decide) rfl (fun ls hl => ?_)
        refine lv_goto (tgt := 19) hx hb dX1_chain_66 (by decide) ?_
        exact ih v1 v3 (v4 + x_8) (v5 + 1) u_6.2 hf _ _ _ w (lv_sub hl [3, 4, 5, 1, 0] rfl)
      · have hf := y_ifp k_7 hf
        refine lv_aload_n hx hb dX1_chain_42 rfl (lv_at hl 1 rfl) ?_
        refine lv_iload hx hb dX1_chain_43 (lv_at hl 5 rfl) ?_
        refine lv_bipush (v := (-3)) hx hb dX1_chain_45 (by decide) ?_
        obtain ⟨u_9, hu_9, hf⟩ := y_bd hf
        refine ycallI (n := 2) (r := u_9.1) (st2 := u_9.2) (rest := []) F hA (c1_goes l D v5 (-3)) gX1_chain_X1_goes rfl (by decide +kernel) rfl ⟨Nat.le_of_ble_eq_true rfl, Nat.le_of_ble_eq_true rfl⟩ rfl hl.1 w hu_9 rfl (Nat.le_of_ble_eq_true rfl) ⟨Nat.zero_le _, Nat.zero_le _⟩ dX1_chain_47 (fun H locs w => ?_)
        exact yret hret hf rfl w dX1_chain_50
set_option maxHeartbeats 4000000 in
set_option maxRecDepth 100000 in
theorem c1_chain (l : Launch) (D : va_G) (a1 : Int64) (a3 : Int32) : yMet l D 1 yX1_chain wsX1_chain 1 [.long a1, .int a3] (f1_chain a1 a3) := by
  refine yentI (cc := cX1_chain) (nL := 7) (ret := .int) (by decide) rfl (fun _ => Nat.le_of_ble_eq_true rfl) ?_
  intro h0 q1 q2 q3 cA r st2 p e s m args below meth c A Q F hA hret st hf H locs ls w hl
  have F : CallFix p m c cX1_chain 7 s args wsX1_chain RX1 := F
  have hx := F.1
  have hb := F.2.1
  have hl : lv_has ls 7 [(0, .ref h0), (1, .long a1), (3, .int a3)] := hl
  unfold f1_chain at hf
  refine lv_iload_n hx hb dX1_chain_0 rfl (lv_at hl 2 rfl) ?_
  refine lv_iconst (v := 1) hx hb dX1_chain_1 (by decide) ?_
  refine lv_bipush (v := 16) hx hb dX1_chain_2 (by decide) ?_
  obtain ⟨u_1, hu_1, hf⟩ := y_bd hf
  refine ycallSW (n := 3) (rest := []) F hA (c1_in l a3 1 16) gX1_chain_X1_in rfl (by decide +kernel) ⟨Nat.le_of_ble_eq_true rfl, Nat.le_of_ble_eq_true rfl⟩ rfl hl.1 w hu_1 rfl (Nat.le_of_ble_eq_true rfl) ⟨Nat.zero_le _, Nat.zero_le _⟩ dX1_chain_4 (fun H locs w => ?_)
  refine lv_if_ne (tgt := 13) hx hb dX1_chain_7 (by decide) (fun k_2 => ?_) (fun k_2 => ?_)
  · have hf := y_ifn k_2 hf
    refine lv_iconst (v := 0) hx hb dX1_chain_13 (by decide) ?_
    refine lv_istore (lv' := [(4, .int 0), (0, .ref h0), (1, .long a1), (3, .int a3)]) hx hb dX1_chain_14 hl (by decide) rfl (fun ls hl => ?_)
    refine lv_iconst (v := 0) hx hb dX1_chain_16 (by decide) ?_
    refine lv_istore (lv' := [(5, .int 0), (4, .int 0), (0, .ref h0), (1, .long a1), (3, .int a3)]) hx hb dX1_chain_17 hl (by decide) rfl (fun ls hl => ?_)
    exact b1_chain_L19 F hA hret 40 a1 a3 0 0 st hf _ _ _ w (lv_sub hl [2, 3, 4, 1, 0] rfl)
  · have hf := y_ifp k_2 hf
    refine lv_bipush (v := (-2)) hx hb dX1_chain_10 (by decide) ?_
    exact yret hret hf rfl w dX1_chain_12
theorem hin1_survey : ∀ w ∈ wsX10, w ∈ wsX1_survey := by decide +kernel
set_option maxHeartbeats 4000000 in
set_option maxRecDepth 100000 in
theorem b1_survey_L19 {l : Launch} {D : va_G} {h0 q1 q2 q3 : Nat} {cA : ClassId} {r : Int32} {st2 : St} {p : Program} {e : Env} {s : State} {m : MethodId} {args : Array Value} {below : List Frame} {meth : Method} {c : Code} {A : Nat → Prop} {Q : State → Prop} (F : CallFix p m c cX1_survey 7 s args wsX1_survey RX1) (hA : ∀ q, s.heap.size ≤ q → A q) (hret : yRetI D 1 h0 q1 q2 q3 cA p l e 1 s m args below meth c cX1_survey A Q .int r st2) : ∀ (n : Nat) (v1 : Int64) (v3 : Int32) (v4 : Int32) (v5 : Int32) (st : St), f1_survey_L19 n v1 v3 v4 v5 st = some (r, st2) → ∀ (H : Heap) (locs : List Loc) (ls : Array Slot), Wd D 1 h0 q1 q2 q3 cA A s st H locs → lv_has ls 7 [(0, .ref h0), (1, .long v1), (3, .int v3), (4, .int v4), (5, .int v5)] → W p l e (yrm 1) s m args below meth c H locs 0 0 Q (F0 m 19 ls []) := by
  have hx := F.1
  have hb := F.2.1
  intro n
  induction n with
  | zero =>
    intro v1 v3 v4 v5 st hf
    rw [f1_survey_L19] at hf
    cases hf
  | succ n ih =>
    intro v1 v3 v4 v5 st hf H locs ls w hl
    rw [f1_survey_L19] at hf
    refine lv_iload hx hb dX1_survey_19 (lv_at hl 4 rfl) ?_
    refine lv_iload_n hx hb dX1_survey_21 rfl (lv_at hl 2 rfl) ?_
    refine lv_icmp_ge (tgt := 65) hx hb dX1_survey_22 (by decide) (fun k_3 => ?_) (fun k_3 => ?_)
    · have hf := y_ifp k_3 hf
      refine lv_iload hx hb dX1_survey_65 (lv_at hl 3 rfl) ?_
      exact yret hret hf rfl w dX1_survey_67
    · have hf := y_ifn k_3 hf
      refine lv_lload_n hx hb dX1_survey_25 rfl (lv_at hl 1 rfl) ?_
      refine lv_iload hx hb dX1_survey_26 (lv_at hl 4 rfl) ?_
      obtain ⟨u_4, hu_4, hf⟩ := y_bd hf
      refine ycallSW (n := 2) (rest := []) F hA (c1_trackOf l v1 v5) gX1_survey_X1_trackOf rfl (by decide +kernel) ⟨Nat.le_of_ble_eq_true rfl, Nat.le_of_ble_eq_true rfl⟩ rfl hl.1 w hu_4 rfl (Nat.le_of_ble_eq_true rfl) ⟨Nat.zero_le _, Nat.zero_le _⟩ dX1_survey_28 (fun H locs w => ?_)
      refine lv_istore (lv' := [(6, .int u_4), (0, .ref h0), (1, .long v1), (3, .int v3), (4, .int v4), (5, .int v5)]) hx hb dX1_survey_31 hl (by decide) rfl (fun ls hl => ?_)
      refine lv_aload_n hx hb dX1_survey_33 rfl (lv_at hl 1 rfl) ?_
      refine lv_iload hx hb dX1_survey_34 (lv_at hl 0 rfl) ?_
      obtain ⟨u_5, hu_5, hf⟩ := y_bd hf
      refine ycallI (n := 1) (r := u_5.1) (st2 := u_5.2) (rest := []) F hA (c1_holds l D u_4) gX1_survey_X1_holds rfl (by decide +kernel) rfl ⟨Nat.le_of_ble_eq_true rfl, Nat.le_of_ble_eq_true rfl⟩ rfl hl.1 w hu_5 rfl (Nat.le_of_ble_eq_true rfl) ⟨Nat.zero_le _, Nat.zero_le _⟩ dX1_survey_36 (fun H locs w => ?_)
      refine lv_if_eq (tgt := 59) hx hb dX1_survey_39 (by decide) (fun k_6 => ?_) (fun k_6 => ?_)
      · have hf := y_ifp k_6 hf
        refine lv_iinc (v := v5 + 1) (lv' := [(5, .int (v5 + 1)), (6, .int u_4), (0, .ref h0), (1, .long v1), (3, .int v3), (4, .int v4)]) hx hb dX1_survey_59 hl (k := 5) rfl rfl (by decide) rfl (fun ls hl => ?_)
        refine lv_goto (tgt := 19) hx hb dX1_survey_62 (by decide) ?_
        exact ih v1 v3 v4 (v5 + 1) u_5.2 hf _ _ _ w (lv_sub hl [2, 3, 4, 5, 0] rfl)
      · have hf := y_ifn k_6 hf
        refine lv_iload hx hb dX1_survey_42 (lv_at hl 4 rfl) ?_
        refine lv_aload_n hx hb dX1_survey_44 rfl (lv_at hl 1 rfl) ?_
        refine lv_iconst (v := 1) hx hb dX1_survey_45 (by decide) ?_
        refine lv_aload_n hx hb dX1_survey_46 rfl (lv_at hl 1 rfl) ?_
        refine yget1 F hin1_survey w 1 (by decide) (by decide +kernel) (v := .ref q2) rfl dX1_survey_47 ?_
        refine lv_iload hx hb dX1_survey_50 (lv_at hl 0 rfl) ?_
        obtain ⟨x_7, hx_7, hf⟩ := y_bd hf
        refine yald1 F w hx_7 dX1_survey_52 ?_
        obtain ⟨u_8, hu_8, hf⟩ := y_bd hf
        refine ycallI (n := 2) (r := u_8.1) (st2 := u_8.2) (rest := [.int v4]) F hA (c1_goes l D 1 x_7) gX1_survey_X1_goes rfl (by decide +kernel) rfl ⟨Nat.le_of_ble_eq_true rfl, Nat.le_of_ble_eq_true rfl⟩ rfl hl.1 w hu_8 rfl (Nat.le_of_ble_eq_true rfl) ⟨Nat.zero_le _, Nat.zero_le _⟩ dX1_survey_53 (fun H locs w => ?_)
        refine lv_iadd hx hb dX1_survey_56 ?_
        refine lv_istore (lv' := [(4, .int (v4 + u_8.1)), (6, .int u_4), (0, .ref h0), (1, .long v1), (3, .int v3), (5, .int v5)]) hx hb dX1_survey_57 hl (by decide) rfl (fun ls hl => ?_)
        refine lv_iinc (v := v5 + 1) (lv' := [(5, .int (v5 + 1)), (4, .int (v4 + u_8.1)), (6, .int u_4), (0, .ref h0), (1, .long v1), (3, .int v3)]) hx hb dX1_survey_59 hl (k := 5) rfl rfl (by decide) rfl (fun ls hl => ?_)
        refine lv_goto (tgt := 19) hx hb dX1_survey_62 (by decide) ?_
        exact ih v1 v3 (v4 + u_8.1) (v5 + 1) u_8.2 hf _ _ _ w (lv_sub hl [3, 4, 5, 1, 0] rfl)
set_option maxHeartbeats 4000000 in
set_option maxRecDepth 100000 in
theorem c1_survey (l : Launch) (D : va_G) (a1 : Int64) (a3 : Int32) : yMet l D 1 yX1_survey wsX1_survey 1 [.long a1, .int a3] (f1_survey a1 a3) := by
  refine yentI (cc := cX1_survey) (nL := 7) (ret := .int) (by decide) rfl (fun _ => Nat.le_of_ble_eq_true rfl) ?_
  intro h0 q1 q2 q3 cA r st2 p e s m args below meth c A Q F hA hret st hf H locs ls w hl
  have F : CallFix p m c cX1_survey 7 s args wsX1_survey RX1 := F
  have hx := F.1
  have hb := F.2.1
  have hl : lv_has ls 7 [(0, .ref h0), (1, .long a1), (3, .int a3)] := hl
  unfold f1_survey at hf
  refine lv_iload_n hx hb dX1_survey_0 rfl (lv_at hl 2 rfl) ?_
  refine lv_iconst (v := 1) hx hb dX1_survey_1 (by decide) ?_
  refine lv_bipush (v := 16) hx hb dX1_survey_2 (by decide) ?_
  obtain ⟨u_1, hu_1, hf⟩ := y_bd hf
  refine ycallSW (n := 3) (rest := []) F hA (c1_in l a3 1 16) gX1_survey_X1_in rfl (by decide +kernel) ⟨Nat.le_of_ble_eq_true rfl, Nat.le_of_ble_eq_true rfl⟩ rfl hl.1 w hu_1 rfl (Nat.le_of_ble_eq_true rfl) ⟨Nat.zero_le _, Nat.zero_le _⟩ dX1_survey_4 (fun H locs w => ?_)
  refine lv_if_ne (tgt := 13) hx hb dX1_survey_7 (by decide) (fun k_2 => ?_) (fun k_2 => ?_)
  · have hf := y_ifn k_2 hf
    refine lv_iconst (v := 0) hx hb dX1_survey_13 (by decide) ?_
    refine lv_istore (lv' := [(4, .int 0), (0, .ref h0), (1, .long a1), (3, .int a3)]) hx hb dX1_survey_14 hl (by decide) rfl (fun ls hl => ?_)
    refine lv_iconst (v := 0) hx hb dX1_survey_16 (by decide) ?_
    refine lv_istore (lv' := [(5, .int 0), (4, .int 0), (0, .ref h0), (1, .long a1), (3, .int a3)]) hx hb dX1_survey_17 hl (by decide) rfl (fun ls hl => ?_)
    exact b1_survey_L19 F hA hret 40 a1 a3 0 0 st hf _ _ _ w (lv_sub hl [2, 3, 4, 1, 0] rfl)
  · have hf := y_ifp k_2 hf
    refine lv_bipush (v := (-2)) hx hb dX1_survey_10 (by decide) ?_
    exact yret hret hf rfl w dX1_survey_12
theorem hin1_turn : ∀ w ∈ wsX10, w ∈ wsX1_turn := by decide +kernel
set_option maxHeartbeats 4000000 in
set_option maxRecDepth 100000 in
theorem b1_turn_L30 {l : Launch} {D : va_G} {h0 q1 q2 q3 : Nat} {cA : ClassId} {r : Int32} {st2 : St} {p : Program} {e : Env} {s : State} {m : MethodId} {args : Array Value} {below : List Frame} {meth : Method} {c : Code} {A : Nat → Prop} {Q : State → Prop} (F : CallFix p m c cX1_turn 8 s args wsX1_turn RX1) (hA : ∀ q, s.heap.size ≤ q → A q) (hret : yRetI D 1 h0 q1 q2 q3 cA p l e 2 s m args below meth c cX1_turn A Q .int r st2) : ∀ (n : Nat) (v1 : Int32) (v2 : Int32) (v3 : Int32) (st : St), f1_turn_L30 n v1 v2 v3 st = some (r, st2) → ∀ (H : Heap) (locs : List Loc) (ls : Array Slot), Wd D 1 h0 q1 q2 q3 cA A s st H locs → lv_has ls 8 [(0, .ref h0), (1, .int v1), (2, .int v2), (3, .int v3)] → W p l e (yrm 2) s m args below meth c H locs 0 0 Q (F0 m 30 ls []) := by
  have hx := F.1
  have hb := F.2.1
  intro n
  induction n with
  | zero =>
    intro v1 v2 v3 st hf
    rw [f1_turn_L30] at hf
    cases hf
  | succ n ih =>
    intro v1 v2 v3 st hf H locs ls w hl
    rw [f1_turn_L30] at hf
    refine lv_iload_n hx hb dX1_turn_30 rfl (lv_at hl 3 rfl) ?_
    refine lv_iload_n hx hb dX1_turn_31 rfl (lv_at hl 2 rfl) ?_
    refine lv_iconst (v := 2) hx hb dX1_turn_32 (by decide) ?_
    refine lv_idiv hx hb dX1_turn_33 (by decide) ?_
    refine lv_icmp_ge (tgt := 111) hx hb dX1_turn_34 (by decide) (fun k_6 => ?_) (fun k_6 => ?_)
    · have hf := y_ifp k_6 hf
      refine lv_aload_n hx hb dX1_turn_111 rfl (lv_at hl 0 rfl) ?_
      refine lv_iconst (v := 1) hx hb dX1_turn_112 (by decide) ?_
      refine lv_iload_n hx hb dX1_turn_113 rfl (lv_at hl 2 rfl) ?_
      obtain ⟨u_7, hu_7, hf⟩ := y_bd hf
      refine ycallI (n := 2) (r := u_7.1) (st2 := u_7.2) (rest := []) F hA (c1_goes l D 1 v2) gX1_turn_X1_goes rfl (by decide +kernel) rfl ⟨Nat.le_of_ble_eq_true rfl, Nat.le_of_ble_eq_true rfl⟩ rfl hl.1 w hu_7 rfl (Nat.le_of_ble_eq_true rfl) ⟨Nat.zero_le _, Nat.zero_le _⟩ dX1_turn_114 (fun H locs w => ?_)
      exact yret hret hf rfl w dX1_turn_117
    · have hf := y_ifn k_6 hf
      refine lv_aload_n hx hb dX1_turn_37 rfl (lv_at hl 0 rfl) ?_
      refine lv_iload_n hx hb dX1_turn_38 rfl (lv_at hl 1 rfl) ?_
      obtain ⟨u_8, hu_8, hf⟩ := y_bd hf
      refine ycallI (n := 1) (r := u_8.1) (st2 := u_8.2) (rest := []) F hA (c1_holds l D v1) gX1_turn_X1_holds rfl (by decide +kernel) rfl ⟨Nat.le_of_ble_eq_true rfl, Nat.le_of_ble_eq_true rfl⟩ rfl hl.1 w hu_8 rfl (Nat.le_of_ble_eq_true rfl) ⟨Nat.zero_le _, Nat.zero_le _⟩ dX1_turn_39 (fun H locs w => ?_)
      refine lv_if_eq (tgt := 105) hx hb dX1_turn_42 (by decide) (fun k_9 => ?_) (fun k_9 => ?_)
      · have hf := y_ifp k_9 hf
        refine lv_iinc (v := v3 + 1) (lv' := [(3, .int (v3 + 1)), (0, .ref h0), (1, .int v1), (2, .int v2)]) hx hb dX1_turn_105 hl (k := 3) rfl rfl (by decide) rfl (fun ls hl => ?_)
        refine lv_goto (tgt := 30) hx hb dX1_turn_108 (by decide) ?_
        exact ih v1 v2 (v3 + 1) u_8.2 hf _ _ _ w (lv_sub hl [1, 2, 3, 0] rfl)
      · have hf := y_ifn k_9 hf
        refine lv_bipush (v := 12) hx hb dX1_turn_45 (by decide) ?_
        refine lv_iload_n hx hb dX1_turn_47 rfl (lv_at hl 1 rfl) ?_
        refine lv_imul hx hb dX1_turn_48 ?_
        refine lv_iload_n hx hb dX1_turn_49 rfl (lv_at hl 3 rfl) ?_
        refine lv_iadd hx hb dX1_turn_50 ?_
        refine lv_istore (lv' := [(4, .int ((12 * v1) + v3)), (0, .ref h0), (1, .int v1), (2, .int v2), (3, .int v3)]) hx hb dX1_turn_51 hl (by decide) rfl (fun ls hl => ?_)
        refine lv_bipush (v := 12) hx hb dX1_turn_53 (by decide) ?_
        refine lv_iload_n hx hb dX1_turn_55 rfl (lv_at hl 2 rfl) ?_
        refine lv_imul hx hb dX1_turn_56 ?_
        refine lv_iload_n hx hb dX1_turn_57 rfl (lv_at hl 3 rfl) ?_
        refine lv_iadd hx hb dX1_turn_58 ?_
        refine lv_iconst (v := 1) hx hb dX1_turn_59 (by decide) ?_
        refine lv_isub hx hb dX1_turn_60 ?_
        refine lv_iload_n hx hb dX1_turn_61 rfl (lv_at hl 4 rfl) ?_
        refine lv_isub hx hb dX1_turn_62 ?_
        refine lv_istore (lv' := [(5, .int ((((12 * v1) + v2) - 1) - v3)), (4, .int ((12 * v1) + v3)), (0, .ref h0), (1, .int v1), (2, .int v2), (3, .int v3)]) hx hb dX1_turn_63 hl (by decide) rfl (fun ls hl => ?_)
        refine lv_aload_n hx hb dX1_turn_65 rfl (lv_at hl 2 rfl) ?_
        refine yget1 F hin1_turn w 2 (by decide) (by decide +kernel) (v := .ref q3) rfl dX1_turn_66 ?_
        refine lv_iload hx hb dX1_turn_69 (lv_at hl 1 rfl) ?_
        obtain ⟨x_10, hx_10, hf⟩ := y_bd hf
        refine yald2 F w hx_10 dX1_turn_71 ?_
        refine lv_istore (lv' := [(6, .int x_10), (5, .int ((((12 * v1) + v2) - 1) - v3)), (4, .int ((12 * v1) + v3)), (0, .ref h0), (1, .int v1), (2, .int v2), (3, .int v3)]) hx hb dX1_turn_72 hl (by decide) rfl (fun ls hl => ?_)
        refine lv_aload_n hx hb dX1_turn_74 rfl (lv_at hl 3 rfl) ?_
        refine yget1 F hin1_turn w 2 (by decide) (by decide +kernel) (v := .ref q3) rfl dX1_turn_75 ?_
        refine lv_iload hx hb dX1_turn_78 (lv_at hl 2 rfl) ?_
        refine lv_aload_n hx hb dX1_turn_80 rfl (lv_at hl 3 rfl) ?_
        refine yget1 F hin1_turn w 2 (by decide) (by decide +kernel) (v := .ref q3) rfl dX1_turn_81 ?_
        refine lv_iload hx hb dX1_turn_84 (lv_at hl 1 rfl) ?_
        obtain ⟨x_11, hx_11, hf⟩ := y_bd hf
        refine yald2 F w hx_11 dX1_turn_86 ?_
        obtain ⟨st_12, hst_12, hf⟩ := y_bd hf
        refine yast2 F w hst_12 dX1_turn_87 (fun H locs w => ?_)
        refine lv_aload_n hx hb dX1_turn_88 rfl (lv_at hl 3 rfl) ?_
        refine yget1 F hin1_turn w 2 (by decide) (by decide +kernel) (v := .ref q3) rfl dX1_turn_89 ?_
        refine lv_iload hx hb dX1_turn_92 (lv_at hl 1 rfl) ?_
        refine lv_iload hx hb dX1_turn_94 (lv_at hl 0 rfl) ?_
        obtain ⟨st_13, hst_13, hf⟩ := y_bd hf
        refine yast2 F w hst_13 dX1_turn_96 (fun H locs w => ?_)
        refine lv_aload_n hx hb dX1_turn_97 rfl (lv_at hl 3 rfl) ?_
        refine lv_iconst (v := 1) hx hb dX1_turn_98 (by decide) ?_
        refine lv_iconst (v := 0) hx hb dX1_turn_99 (by decide) ?_
        obtain ⟨u_14, hu_14, hf⟩ := y_bd hf
        refine ycallI (n := 2) (r := u_14.1) (st2 := u_14.2) (rest := []) F hA (c1_goes l D 1 0) gX1_turn_X1_goes rfl (by decide +kernel) rfl ⟨Nat.le_of_ble_eq_true rfl, Nat.le_of_ble_eq_true rfl⟩ rfl hl.1 w hu_14 rfl (Nat.le_of_ble_eq_true rfl) ⟨Nat.zero_le _, Nat.zero_le _⟩ dX1_turn_100 (fun H locs w => ?_)
        refine lv_istore (lv' := [(7, .int u_14.1), (6, .int x_10), (5, .int ((((12 * v1) + v2) - 1) - v3)), (4, .int ((12 * v1) + v3)), (0, .ref h0), (1, .int v1), (2, .int v2), (3, .int v3)]) hx hb dX1_turn_103 hl (by decide) rfl (fun ls hl => ?_)
        refine lv_iinc (v := v3 + 1) (lv' := [(3, .int (v3 + 1)), (7, .int u_14.1), (6, .int x_10), (5, .int ((((12 * v1) + v2) - 1) - v3)), (4, .int ((12 * v1) + v3)), (0, .ref h0), (1, .int v1), (2, .int v2)]) hx hb dX1_turn_105 hl (k := 7) rfl rfl (by decide) rfl (fun ls hl => ?_)
        refine lv_goto (tgt := 30) hx hb dX1_turn_108 (by decide) ?_
        exact ih v1 v2 (v3 + 1) u_14.2 hf _ _ _ w (lv_sub hl [5, 6, 7, 0] rfl)
set_option maxHeartbeats 4000000 in
set_option maxRecDepth 100000 in
theorem c1_turn (l : Launch) (D : va_G) (a1 : Int32) : yMet l D 1 yX1_turn wsX1_turn 2 [.int a1] (f1_turn a1) := by
  refine yentI (cc := cX1_turn) (nL := 8) (ret := .int) (by decide) rfl (fun _ => Nat.le_of_ble_eq_true rfl) ?_
  intro h0 q1 q2 q3 cA r st2 p e s m args below meth c A Q F hA hret st hf H locs ls w hl
  have F : CallFix p m c cX1_turn 8 s args wsX1_turn RX1 := F
  have hx := F.1
  have hb := F.2.1
  have hl : lv_has ls 8 [(0, .ref h0), (1, .int a1)] := hl
  unfold f1_turn at hf
  refine lv_iload_n hx hb dX1_turn_0 rfl (lv_at hl 1 rfl) ?_
  obtain ⟨u_1, hu_1, hf⟩ := y_bd hf
  refine ycallSW (n := 1) (rest := []) F hA (c1_isTrack l a1) gX1_turn_X1_isTrack rfl (by decide +kernel) ⟨Nat.le_of_ble_eq_true rfl, Nat.le_of_ble_eq_true rfl⟩ rfl hl.1 w hu_1 rfl (Nat.le_of_ble_eq_true rfl) ⟨Nat.zero_le _, Nat.zero_le _⟩ dX1_turn_1 (fun H locs w => ?_)
  refine lv_if_ne (tgt := 10) hx hb dX1_turn_4 (by decide) (fun k_2 => ?_) (fun k_2 => ?_)
  · have hf := y_ifn k_2 hf
    refine lv_aload_n hx hb dX1_turn_10 rfl (lv_at hl 0 rfl) ?_
    refine lv_iload_n hx hb dX1_turn_11 rfl (lv_at hl 1 rfl) ?_
    obtain ⟨u_3, hu_3, hf⟩ := y_bd hf
    refine ycallI (n := 1) (r := u_3.1) (st2 := u_3.2) (rest := []) F hA (c1_holds l D a1) gX1_turn_X1_holds rfl (by decide +kernel) rfl ⟨Nat.le_of_ble_eq_true rfl, Nat.le_of_ble_eq_true rfl⟩ rfl hl.1 w hu_3 rfl (Nat.le_of_ble_eq_true rfl) ⟨Nat.zero_le _, Nat.zero_le _⟩ dX1_turn_12 (fun H locs w => ?_)
    refine lv_if_ne (tgt := 21) hx hb dX1_turn_15 (by decide) (fun k_4 => ?_) (fun k_4 => ?_)
    · have hf := y_ifn k_4 hf
      refine lv_aload_n hx hb dX1_turn_21 rfl (lv_at hl 0 rfl) ?_
      refine yget1 F hin1_turn w 1 (by decide) (by decide +kernel) (v := .ref q2) rfl dX1_turn_22 ?_
      refine lv_iload_n hx hb dX1_turn_25 rfl (lv_at hl 1 rfl) ?_
      obtain ⟨x_5, hx_5, hf⟩ := y_bd hf
      refine yald1 F w hx_5 dX1_turn_26 ?_
      refine lv_istore_n (lv' := [(2, .int x_5), (0, .ref h0), (1, .int a1)]) hx hb dX1_turn_27 rfl hl (by decide) rfl (fun ls hl => ?_)
      refine lv_iconst (v := 0) hx hb dX1_turn_28 (by decide) ?_
      refine lv_istore_n (lv' := [(3, .int 0), (2, .int x_5), (0, .ref h0), (1, .int a1)]) hx hb dX1_turn_29 rfl hl (by decide) rfl (fun ls hl => ?_)
      exact b1_turn_L30 F hA hret 40 a1 x_5 0 u_3.2 hf _ _ _ w (lv_sub hl [2, 3, 1, 0] rfl)
    · have hf := y_ifp k_4 hf
      refine lv_bipush (v := (-3)) hx hb dX1_turn_18 (by decide) ?_
      exact yret hret hf rfl w dX1_turn_20
  · have hf := y_ifp k_2 hf
    refine lv_bipush (v := (-2)) hx hb dX1_turn_7 (by decide) ?_
    exact yret hret hf rfl w dX1_turn_9
theorem hin1_swap : ∀ w ∈ wsX10, w ∈ wsX1_swap := by decide +kernel
set_option maxHeartbeats 4000000 in
set_option maxRecDepth 100000 in
theorem b1_swap_L92 {l : Launch} {D : va_G} {h0 q1 q2 q3 : Nat} {cA : ClassId} {r : Int32} {st2 : St} {p : Program} {e : Env} {s : State} {m : MethodId} {args : Array Value} {below : List Frame} {meth : Method} {c : Code} {A : Nat → Prop} {Q : State → Prop} (F : CallFix p m c cX1_swap 5 s args wsX1_swap RX1) (hA : ∀ q, s.heap.size ≤ q → A q) (hret : yRetI D 1 h0 q1 q2 q3 cA p l e 2 s m args below meth c cX1_swap A Q .int r st2) : ∀ (n : Nat) (v1 : Int32) (v2 : Int32) (v3 : Int32) (st : St), f1_swap_L92 n v1 v2 v3 st = some (r, st2) → ∀ (H : Heap) (locs : List Loc) (ls : Array Slot), Wd D 1 h0 q1 q2 q3 cA A s st H locs → lv_has ls 5 [(0, .ref h0), (1, .int v1), (2, .int v2), (3, .int v3)] → W p l e (yrm 2) s m args below meth c H locs 0 0 Q (F0 m 92 ls []) := by
  have hx := F.1
  have hb := F.2.1
  intro n
  induction n with
  | zero =>
    intro v1 v2 v3 st hf
    rw [f1_swap_L92] at hf
    cases hf
  | succ n ih =>
    intro v1 v2 v3 st hf H locs ls w hl
    rw [f1_swap_L92] at hf
    refine lv_iload_n hx hb dX1_swap_92 rfl (lv_at hl 3 rfl) ?_
    refine lv_bipush (v := 12) hx hb dX1_swap_93 (by decide) ?_
    refine lv_icmp_ge (tgt := 152) hx hb dX1_swap_95 (by decide) (fun k_19 => ?_) (fun k_19 => ?_)
    · have hf := y_ifp k_19 hf
      refine lv_aload_n hx hb dX1_swap_152 rfl (lv_at hl 0 rfl) ?_
      refine yget1 F hin1_swap w 1 (by decide) (by decide +kernel) (v := .ref q2) rfl dX1_swap_153 ?_
      refine lv_iload_n hx hb dX1_swap_156 rfl (lv_at hl 1 rfl) ?_
      obtain ⟨x_20, hx_20, hf⟩ := y_bd hf
      refine yald1 F w hx_20 dX1_swap_157 ?_
      refine lv_istore_n (lv' := [(3, .int x_20), (0, .ref h0), (1, .int v1), (2, .int v2)]) hx hb dX1_swap_158 rfl hl (by decide) rfl (fun ls hl => ?_)
      refine lv_aload_n hx hb dX1_swap_159 rfl (lv_at hl 1 rfl) ?_
      refine yget1 F hin1_swap w 1 (by decide) (by decide +kernel) (v := .ref q2) rfl dX1_swap_160 ?_
      refine lv_iload_n hx hb dX1_swap_163 rfl (lv_at hl 2 rfl) ?_
      refine lv_aload_n hx hb dX1_swap_164 rfl (lv_at hl 1 rfl) ?_
      refine yget1 F hin1_swap w 1 (by decide) (by decide +kernel) (v := .ref q2) rfl dX1_swap_165 ?_
      refine lv_iload_n hx hb dX1_swap_168 rfl (lv_at hl 3 rfl) ?_
      obtain ⟨x_21, hx_21, hf⟩ := y_bd hf
      refine yald1 F w hx_21 dX1_swap_169 ?_
      obtain ⟨st_22, hst_22, hf⟩ := y_bd hf
      refine yast1 F w hst_22 dX1_swap_170 (fun H locs w => ?_)
      refine lv_aload_n hx hb dX1_swap_171 rfl (lv_at hl 1 rfl) ?_
      refine yget1 F hin1_swap w 1 (by decide) (by decide +kernel) (v := .ref q2) rfl dX1_swap_172 ?_
      refine lv_iload_n hx hb dX1_swap_175 rfl (lv_at hl 3 rfl) ?_
      refine lv_iload_n hx hb dX1_swap_176 rfl (lv_at hl 0 rfl) ?_
      obtain ⟨st_23, hst_23, hf⟩ := y_bd hf
      refine yast1 F w hst_23 dX1_swap_177 (fun H locs w => ?_)
      refine lv_aload_n hx hb dX1_swap_178 rfl (lv_at hl 1 rfl) ?_
      refine lv_iconst (v := 3) hx hb dX1_swap_179 (by decide) ?_
      refine lv_aload_n hx hb dX1_swap_180 rfl (lv_at hl 1 rfl) ?_
      refine yget1 F hin1_swap w 1 (by decide) (by decide +kernel) (v := .ref q2) rfl dX1_swap_181 ?_
      refine lv_iload_n hx hb dX1_swap_184 rfl (lv_at hl 2 rfl) ?_
      obtain ⟨x_24, hx_24, hf⟩ := y_bd hf
      refine yald1 F w hx_24 dX1_swap_185 ?_
      obtain ⟨u_25, hu_25, hf⟩ := y_bd hf
      refine ycallI (n := 2) (r := u_25.1) (st2 := u_25.2) (rest := []) F hA (c1_goes l D 3 x_24) gX1_swap_X1_goes rfl (by decide +kernel) rfl ⟨Nat.le_of_ble_eq_true rfl, Nat.le_of_ble_eq_true rfl⟩ rfl hl.1 w hu_25 rfl (Nat.le_of_ble_eq_true rfl) ⟨Nat.zero_le _, Nat.zero_le _⟩ dX1_swap_186 (fun H locs w => ?_)
      exact yret hret hf rfl w dX1_swap_189
    · have hf := y_ifn k_19 hf
      refine lv_aload_n hx hb dX1_swap_98 rfl (lv_at hl 0 rfl) ?_
      refine yget1 F hin1_swap w 2 (by decide) (by decide +kernel) (v := .ref q3) rfl dX1_swap_99 ?_
      refine lv_bipush (v := 12) hx hb dX1_swap_102 (by decide) ?_
      refine lv_iload_n hx hb dX1_swap_104 rfl (lv_at hl 1 rfl) ?_
      refine lv_imul hx hb dX1_swap_105 ?_
      refine lv_iload_n hx hb dX1_swap_106 rfl (lv_at hl 3 rfl) ?_
      refine lv_iadd hx hb dX1_swap_107 ?_
      obtain ⟨x_26, hx_26, hf⟩ := y_bd hf
      refine yald2 F w hx_26 dX1_swap_108 ?_
      refine lv_istore (lv' := [(4, .int x_26), (0, .ref h0), (1, .int v1), (2, .int v2), (3, .int v3)]) hx hb dX1_swap_109 hl (by decide) rfl (fun ls hl => ?_)
      refine lv_aload_n hx hb dX1_swap_111 rfl (lv_at hl 1 rfl) ?_
      refine yget1 F hin1_swap w 2 (by decide) (by decide +kernel) (v := .ref q3) rfl dX1_swap_112 ?_
      refine lv_bipush (v := 12) hx hb dX1_swap_115 (by decide) ?_
      refine lv_iload_n hx hb dX1_swap_117 rfl (lv_at hl 2 rfl) ?_
      refine lv_imul hx hb dX1_swap_118 ?_
      refine lv_iload_n hx hb dX1_swap_119 rfl (lv_at hl 4 rfl) ?_
      refine lv_iadd hx hb dX1_swap_120 ?_
      refine lv_aload_n hx hb dX1_swap_121 rfl (lv_at hl 1 rfl) ?_
      refine yget1 F hin1_swap w 2 (by decide) (by decide +kernel) (v := .ref q3) rfl dX1_swap_122 ?_
      refine lv_bipush (v := 12) hx hb dX1_swap_125 (by decide) ?_
      refine lv_iload_n hx hb dX1_swap_127 rfl (lv_at hl 3 rfl) ?_
      refine lv_imul hx hb dX1_swap_128 ?_
      refine lv_iload_n hx hb dX1_swap_129 rfl (lv_at hl 4 rfl) ?_
      refine lv_iadd hx hb dX1_swap_130 ?_
      obtain ⟨x_27, hx_27, hf⟩ := y_bd hf
      refine yald2 F w hx_27 dX1_swap_131 ?_
      obtain ⟨st_28, hst_28, hf⟩ := y_bd hf
      refine yast2 F w hst_28 dX1_swap_132 (fun H locs w => ?_)
      refine lv_aload_n hx hb dX1_swap_133 rfl (lv_at hl 1 rfl) ?_
      refine yget1 F hin1_swap w 2 (by decide) (by decide +kernel) (v := .ref q3) rfl dX1_swap_134 ?_
      refine lv_bipush (v := 12) hx hb dX1_swap_137 (by decide) ?_
      refine lv_iload_n hx hb dX1_swap_139 rfl (lv_at hl 3 rfl) ?_
      refine lv_imul hx hb dX1_swap_140 ?_
      refine lv_iload_n hx hb dX1_swap_141 rfl (lv_at hl 4 rfl) ?_
      refine lv_iadd hx hb dX1_swap_142 ?_
      refine lv_iload hx hb dX1_swap_143 (lv_at hl 0 rfl) ?_
      obtain ⟨st_29, hst_29, hf⟩ := y_bd hf
      refine yast2 F w hst_29 dX1_swap_145 (fun H locs w => ?_)
      refine lv_iinc (v := v3 + 1) (lv' := [(3, .int (v3 + 1)), (4, .int x_26), (0, .ref h0), (1, .int v1), (2, .int v2)]) hx hb dX1_swap_146 hl (k := 4) rfl rfl (by decide) rfl (fun ls hl => ?_)
      refine lv_goto (tgt := 92) hx hb dX1_swap_149 (by decide) ?_
      exact ih v1 v2 (v3 + 1) st_29 hf _ _ _ w (lv_sub hl [2, 3, 4, 0] rfl)
set_option maxHeartbeats 4000000 in
set_option maxRecDepth 100000 in
theorem c1_swap (l : Launch) (D : va_G) (a1 : Int32) (a2 : Int32) : yMet l D 1 yX1_swap wsX1_swap 2 [.int a1, .int a2] (f1_swap a1 a2) := by
  refine yentI (cc := cX1_swap) (nL := 5) (ret := .int) (by decide) rfl (fun _ => Nat.le_of_ble_eq_true rfl) ?_
  intro h0 q1 q2 q3 cA r st2 p e s m args below meth c A Q F hA hret st hf H locs ls w hl
  have F : CallFix p m c cX1_swap 5 s args wsX1_swap RX1 := F
  have hx := F.1
  have hb := F.2.1
  have hl : lv_has ls 5 [(0, .ref h0), (1, .int a1), (2, .int a2)] := hl
  unfold f1_swap at hf
  refine lv_iload_n hx hb dX1_swap_0 rfl (lv_at hl 1 rfl) ?_
  obtain ⟨u_1, hu_1, hf⟩ := y_bd hf
  refine ycallSW (n := 1) (rest := []) F hA (c1_isTrack l a1) gX1_swap_X1_isTrack rfl (by decide +kernel) ⟨Nat.le_of_ble_eq_true rfl, Nat.le_of_ble_eq_true rfl⟩ rfl hl.1 w hu_1 rfl (Nat.le_of_ble_eq_true rfl) ⟨Nat.zero_le _, Nat.zero_le _⟩ dX1_swap_1 (fun H locs w => ?_)
  refine lv_if_eq (tgt := 14) hx hb dX1_swap_4 (by decide) (fun k_2 => ?_) (fun k_2 => ?_)
  · have hf := y_ifp k_2 hf
    refine lv_bipush (v := (-2)) hx hb dX1_swap_14 (by decide) ?_
    exact yret hret hf rfl w dX1_swap_16
  · have hf := y_ifn k_2 hf
    refine lv_iload_n hx hb dX1_swap_7 rfl (lv_at hl 2 rfl) ?_
    obtain ⟨u_3, hu_3, hf⟩ := y_bd hf
    refine ycallSW (n := 1) (rest := []) F hA (c1_isTrack l a2) gX1_swap_X1_isTrack rfl (by decide +kernel) ⟨Nat.le_of_ble_eq_true rfl, Nat.le_of_ble_eq_true rfl⟩ rfl hl.1 w hu_3 rfl (Nat.le_of_ble_eq_true rfl) ⟨Nat.zero_le _, Nat.zero_le _⟩ dX1_swap_8 (fun H locs w => ?_)
    refine lv_if_ne (tgt := 17) hx hb dX1_swap_11 (by decide) (fun k_4 => ?_) (fun k_4 => ?_)
    · have hf := y_ifn k_4 hf
      refine lv_aload_n hx hb dX1_swap_17 rfl (lv_at hl 0 rfl) ?_
      refine lv_iload_n hx hb dX1_swap_18 rfl (lv_at hl 1 rfl) ?_
      obtain ⟨u_5, hu_5, hf⟩ := y_bd hf
      refine ycallI (n := 1) (r := u_5.1) (st2 := u_5.2) (rest := []) F hA (c1_holds l D a1) gX1_swap_X1_holds rfl (by decide +kernel) rfl ⟨Nat.le_of_ble_eq_true rfl, Nat.le_of_ble_eq_true rfl⟩ rfl hl.1 w hu_5 rfl (Nat.le_of_ble_eq_true rfl) ⟨Nat.zero_le _, Nat.zero_le _⟩ dX1_swap_19 (fun H locs w => ?_)
      refine lv_if_ne (tgt := 28) hx hb dX1_swap_22 (by decide) (fun k_6 => ?_) (fun k_6 => ?_)
      · have hf := y_ifn k_6 hf
        refine lv_aload_n hx hb dX1_swap_28 rfl (lv_at hl 0 rfl) ?_
        refine lv_iload_n hx hb dX1_swap_29 rfl (lv_at hl 2 rfl) ?_
        obtain ⟨u_7, hu_7, hf⟩ := y_bd hf
        refine ycallI (n := 1) (r := u_7.1) (st2 := u_7.2) (rest := []) F hA (c1_holds l D a2) gX1_swap_X1_holds rfl (by decide +kernel) rfl ⟨Nat.le_of_ble_eq_true rfl, Nat.le_of_ble_eq_true rfl⟩ rfl hl.1 w hu_7 rfl (Nat.le_of_ble_eq_true rfl) ⟨Nat.zero_le _, Nat.zero_le _⟩ dX1_swap_30 (fun H locs w => ?_)
        refine lv_if_ne (tgt := 44) hx hb dX1_swap_33 (by decide) (fun k_8 => ?_) (fun k_8 => ?_)
        · have hf := y_ifn k_8 hf
          refine lv_aload_n hx hb dX1_swap_44 rfl (lv_at hl 0 rfl) ?_
          refine lv_iload_n hx hb dX1_swap_45 rfl (lv_at hl 1 rfl) ?_
          obtain ⟨u_9, hu_9, hf⟩ := y_bd hf
          refine ycallI (n := 1) (r := u_9.1) (st2 := u_9.2) (rest := []) F hA (c1_holds l D a1) gX1_swap_X1_holds rfl (by decide +kernel) rfl ⟨Nat.le_of_ble_eq_true rfl, Nat.le_of_ble_eq_true rfl⟩ rfl hl.1 w hu_9 rfl (Nat.le_of_ble_eq_true rfl) ⟨Nat.zero_le _, Nat.zero_le _⟩ dX1_swap_46 (fun H locs w => ?_)
          refine lv_if_eq (tgt := 82) hx hb dX1_swap_49 (by decide) (fun k_10 => ?_) (fun k_10 => ?_)
          · have hf := y_ifp k_10 hf
            refine lv_aload_n hx hb dX1_swap_82 rfl (lv_at hl 0 rfl) ?_
            refine lv_iconst (v := 3) hx hb dX1_swap_83 (by decide) ?_
            refine lv_bipush (v := (-4)) hx hb dX1_swap_84 (by decide) ?_
            obtain ⟨u_11, hu_11, hf⟩ := y_bd hf
            refine ycallI (n := 2) (r := u_11.1) (st2 := u_11.2) (rest := []) F hA (c1_goes l D 3 (-4)) gX1_swap_X1_goes rfl (by decide +kernel) rfl ⟨Nat.le_of_ble_eq_true rfl, Nat.le_of_ble_eq_true rfl⟩ rfl hl.1 w hu_11 rfl (Nat.le_of_ble_eq_true rfl) ⟨Nat.zero_le _, Nat.zero_le _⟩ dX1_swap_86 (fun H locs w => ?_)
            exact yret hret hf rfl w dX1_swap_89
          · have hf := y_ifn k_10 hf
            refine lv_aload_n hx hb dX1_swap_52 rfl (lv_at hl 0 rfl) ?_
            refine yget1 F hin1_swap w 1 (by decide) (by decide +kernel) (v := .ref q2) rfl dX1_swap_53 ?_
            refine lv_iload_n hx hb dX1_swap_56 rfl (lv_at hl 1 rfl) ?_
            obtain ⟨x_12, hx_12, hf⟩ := y_bd hf
            refine yald1 F w hx_12 dX1_swap_57 ?_
            refine lv_aload_n hx hb dX1_swap_58 rfl (lv_at hl 0 rfl) ?_
            refine yget1 F hin1_swap w 0 (by decide) (by decide +kernel) (v := .ref q1) rfl dX1_swap_59 ?_
            refine lv_iload_n hx hb dX1_swap_62 rfl (lv_at hl 2 rfl) ?_
            obtain ⟨x_13, hx_13, hf⟩ := y_bd hf
            refine yald0 F w hx_13 dX1_swap_63 ?_
            refine lv_icmp_gt (tgt := 82) hx hb dX1_swap_64 (by decide) (fun k_14 => ?_) (fun k_14 => ?_)
            · have hf := y_ifp k_14 hf
              refine lv_aload_n hx hb dX1_swap_82 rfl (lv_at hl 0 rfl) ?_
              refine lv_iconst (v := 3) hx hb dX1_swap_83 (by decide) ?_
              refine lv_bipush (v := (-4)) hx hb dX1_swap_84 (by decide) ?_
              obtain ⟨u_15, hu_15, hf⟩ := y_bd hf
              refine ycallI (n := 2) (r := u_15.1) (st2 := u_15.2) (rest := []) F hA (c1_goes l D 3 (-4)) gX1_swap_X1_goes rfl (by decide +kernel) rfl ⟨Nat.le_of_ble_eq_true rfl, Nat.le_of_ble_eq_true rfl⟩ rfl hl.1 w hu_15 rfl (Nat.le_of_ble_eq_true rfl) ⟨Nat.zero_le _, Nat.zero_le _⟩ dX1_swap_86 (fun H locs w => ?_)
              exact yret hret hf rfl w dX1_swap_89
            · have hf := y_ifn k_14 hf
              refine lv_aload_n hx hb dX1_swap_67 rfl (lv_at hl 0 rfl) ?_
              refine yget1 F hin1_swap w 1 (by decide) (by decide +kernel) (v := .ref q2) rfl dX1_swap_68 ?_
              refine lv_iload_n hx hb dX1_swap_71 rfl (lv_at hl 2 rfl) ?_
              obtain ⟨x_16, hx_16, hf⟩ := y_bd hf
              refine yald1 F w hx_16 dX1_swap_72 ?_
              refine lv_aload_n hx hb dX1_swap_73 rfl (lv_at hl 0 rfl) ?_
              refine yget1 F hin1_swap w 0 (by decide) (by decide +kernel) (v := .ref q1) rfl dX1_swap_74 ?_
              refine lv_iload_n hx hb dX1_swap_77 rfl (lv_at hl 1 rfl) ?_
              obtain ⟨x_17, hx_17, hf⟩ := y_bd hf
              refine yald0 F w hx_17 dX1_swap_78 ?_
              refine lv_icmp_le (tgt := 90) hx hb dX1_swap_79 (by decide) (fun k_18 => ?_) (fun k_18 => ?_)
              · have hf := y_ifp k_18 hf
                refine lv_iconst (v := 0) hx hb dX1_swap_90 (by decide) ?_
                refine lv_istore_n (lv' := [(3, .int 0), (0, .ref h0), (1, .int a1), (2, .int a2)]) hx hb dX1_swap_91 rfl hl (by decide) rfl (fun ls hl => ?_)
                exact b1_swap_L92 F hA hret 40 a1 a2 0 u_9.2 hf _ _ _ w (lv_sub hl [1, 2, 3, 0] rfl)
              · have hf := y_ifn k_18 hf
                refine lv_aload_n hx hb dX1_swap_82 rfl (lv_at hl 0 rfl) ?_
                refine lv_iconst (v := 3) hx hb dX1_swap_83 (by decide) ?_
                refine lv_bipush (v := (-4)) hx hb dX1_swap_84 (by decide) ?_
                obtain ⟨u_30, hu_30, hf⟩ := y_bd hf
                refine ycallI (n := 2) (r := u_30.1) (st2 := u_30.2) (rest := []) F hA (c1_goes l D 3 (-4)) gX1_swap_X1_goes rfl (by decide +kernel) rfl ⟨Nat.le_of_ble_eq_true rfl, Nat.le_of_ble_eq_true rfl⟩ rfl hl.1 w hu_30 rfl (Nat.le_of_ble_eq_true rfl) ⟨Nat.zero_le _, Nat.zero_le _⟩ dX1_swap_86 (fun H locs w => ?_)
                exact yret hret hf rfl w dX1_swap_89
        · have hf := y_ifp k_8 hf
          refine lv_aload_n hx hb dX1_swap_36 rfl (lv_at hl 0 rfl) ?_
          refine lv_iconst (v := 1) hx hb dX1_swap_37 (by decide) ?_
          refine lv_bipush (v := (-3)) hx hb dX1_swap_38 (by decide) ?_
          obtain ⟨u_31, hu_31, hf⟩ := y_bd hf
          refine ycallI (n := 2) (r := u_31.1) (st2 := u_31.2) (rest := []) F hA (c1_goes l D 1 (-3)) gX1_swap_X1_goes rfl (by decide +kernel) rfl ⟨Nat.le_of_ble_eq_true rfl, Nat.le_of_ble_eq_true rfl⟩ rfl hl.1 w hu_31 rfl (Nat.le_of_ble_eq_true rfl) ⟨Nat.zero_le _, Nat.zero_le _⟩ dX1_swap_40 (fun H locs w => ?_)
          exact yret hret hf rfl w dX1_swap_43
      · have hf := y_ifp k_6 hf
        refine lv_bipush (v := (-3)) hx hb dX1_swap_25 (by decide) ?_
        exact yret hret hf rfl w dX1_swap_27
    · have hf := y_ifp k_4 hf
      refine lv_bipush (v := (-2)) hx hb dX1_swap_14 (by decide) ?_
      exact yret hret hf rfl w dX1_swap_16
theorem hin1_wagon : ∀ w ∈ wsX10, w ∈ wsX1_wagon := by decide +kernel
set_option maxHeartbeats 4000000 in
set_option maxRecDepth 100000 in
theorem c1_wagon (l : Launch) (D : va_G) (a1 : Int32) (a2 : Int32) : yMet l D 1 yX1_wagon wsX1_wagon 2 [.int a1, .int a2] (f1_wagon a1 a2) := by
  refine yentI (cc := cX1_wagon) (nL := 3) (ret := .int) (by decide) rfl (fun _ => Nat.le_of_ble_eq_true rfl) ?_
  intro h0 q1 q2 q3 cA r st2 p e s m args below meth c A Q F hA hret st hf H locs ls w hl
  have F : CallFix p m c cX1_wagon 3 s args wsX1_wagon RX1 := F
  have hx := F.1
  have hb := F.2.1
  have hl : lv_has ls 3 [(0, .ref h0), (1, .int a1), (2, .int a2)] := hl
  unfold f1_wagon at hf
  refine lv_iload_n hx hb dX1_wagon_0 rfl (lv_at hl 1 rfl) ?_
  obtain ⟨u_1, hu_1, hf⟩ := y_bd hf
  refine ycallSW (n := 1) (rest := []) F hA (c1_isTrack l a1) gX1_wagon_X1_isTrack rfl (by decide +kernel) ⟨Nat.le_of_ble_eq_true rfl, Nat.le_of_ble_eq_true rfl⟩ rfl hl.1 w hu_1 rfl (Nat.le_of_ble_eq_true rfl) ⟨Nat.zero_le _, Nat.zero_le _⟩ dX1_wagon_1 (fun H locs w => ?_)
  refine lv_if_ne (tgt := 10) hx hb dX1_wagon_4 (by decide) (fun k_2 => ?_) (fun k_2 => ?_)
  · have hf := y_ifn k_2 hf
    refine lv_iload_n hx hb dX1_wagon_10 rfl (lv_at hl 2 rfl) ?_
    refine lv_iconst (v := 0) hx hb dX1_wagon_11 (by decide) ?_
    refine lv_aload_n hx hb dX1_wagon_12 rfl (lv_at hl 0 rfl) ?_
    refine yget1 F hin1_wagon w 1 (by decide) (by decide +kernel) (v := .ref q2) rfl dX1_wagon_13 ?_
    refine lv_iload_n hx hb dX1_wagon_16 rfl (lv_at hl 1 rfl) ?_
    obtain ⟨x_3, hx_3, hf⟩ := y_bd hf
    refine yald1 F w hx_3 dX1_wagon_17 ?_
    refine lv_iconst (v := 1) hx hb dX1_wagon_18 (by decide) ?_
    refine lv_isub hx hb dX1_wagon_19 ?_
    obtain ⟨u_4, hu_4, hf⟩ := y_bd hf
    refine ycallSW (n := 3) (rest := []) F hA (c1_in l a2 0 (x_3 - 1)) gX1_wagon_X1_in rfl (by decide +kernel) ⟨Nat.le_of_ble_eq_true rfl, Nat.le_of_ble_eq_true rfl⟩ rfl hl.1 w hu_4 rfl (Nat.le_of_ble_eq_true rfl) ⟨Nat.zero_le _, Nat.zero_le _⟩ dX1_wagon_20 (fun H locs w => ?_)
    refine lv_if_eq (tgt := 40) hx hb dX1_wagon_23 (by decide) (fun k_5 => ?_) (fun k_5 => ?_)
    · have hf := y_ifp k_5 hf
      refine lv_iconst (v := 0) hx hb dX1_wagon_40 (by decide) ?_
      exact yret hret hf rfl w dX1_wagon_41
    · have hf := y_ifn k_5 hf
      refine lv_aload_n hx hb dX1_wagon_26 rfl (lv_at hl 0 rfl) ?_
      refine yget1 F hin1_wagon w 2 (by decide) (by decide +kernel) (v := .ref q3) rfl dX1_wagon_27 ?_
      refine lv_bipush (v := 12) hx hb dX1_wagon_30 (by decide) ?_
      refine lv_iload_n hx hb dX1_wagon_32 rfl (lv_at hl 1 rfl) ?_
      refine lv_imul hx hb dX1_wagon_33 ?_
      refine lv_iload_n hx hb dX1_wagon_34 rfl (lv_at hl 2 rfl) ?_
      refine lv_iadd hx hb dX1_wagon_35 ?_
      obtain ⟨x_6, hx_6, hf⟩ := y_bd hf
      refine yald2 F w hx_6 dX1_wagon_36 ?_
      refine lv_goto (tgt := 41) hx hb dX1_wagon_37 (by decide) ?_
      exact yret hret hf rfl w dX1_wagon_41
  · have hf := y_ifp k_2 hf
    refine lv_bipush (v := (-2)) hx hb dX1_wagon_7 (by decide) ?_
    exact yret hret hf rfl w dX1_wagon_9
theorem hin1_told : ∀ w ∈ wsX10, w ∈ wsX1_told := by decide +kernel
set_option maxHeartbeats 4000000 in
set_option maxRecDepth 100000 in
theorem b1_told_L4 {l : Launch} {D : va_G} {h0 q1 q2 q3 : Nat} {cA : ClassId} {r : Int32} {st2 : St} {p : Program} {e : Env} {s : State} {m : MethodId} {args : Array Value} {below : List Frame} {meth : Method} {c : Code} {A : Nat → Prop} {Q : State → Prop} (F : CallFix p m c cX1_told 4 s args wsX1_told RX1) (hA : ∀ q, s.heap.size ≤ q → A q) (hret : yRetI D 1 h0 q1 q2 q3 cA p l e 0 s m args below meth c cX1_told A Q .int r st2) : ∀ (n : Nat) (v1 : Int32) (v2 : Int32) (v3 : Int32) (st : St), f1_told_L4 n v1 v2 v3 st = some (r, st2) → ∀ (H : Heap) (locs : List Loc) (ls : Array Slot), Wd D 1 h0 q1 q2 q3 cA A s st H locs → lv_has ls 4 [(0, .ref h0), (1, .int v1), (2, .int v2), (3, .int v3)] → W p l e (yrm 0) s m args below meth c H locs 0 0 Q (F0 m 4 ls []) := by
  have hx := F.1
  have hb := F.2.1
  intro n
  induction n with
  | zero =>
    intro v1 v2 v3 st hf
    rw [f1_told_L4] at hf
    cases hf
  | succ n ih =>
    intro v1 v2 v3 st hf H locs ls w hl
    rw [f1_told_L4] at hf
    refine lv_iload_n hx hb dX1_told_4 rfl (lv_at hl 3 rfl) ?_
    refine lv_bipush (v := 8) hx hb dX1_told_5 (by decide) ?_
    refine lv_icmp_ge (tgt := 33) hx hb dX1_told_7 (by decide) (fun k_1 => ?_) (fun k_1 => ?_)
    · have hf := y_ifp k_1 hf
      refine lv_iload_n hx hb dX1_told_33 rfl (lv_at hl 1 rfl) ?_
      by_cases k_2 : v1 = 0
      · have hf := y_ifp k_2 hf
        refine lv_tableIn (off := 42) (tgt := 76) hx hb dX1_told_34 (by rw [k_2]; decide) (by rw [k_2]; decide) (by rw [k_2]; decide) (by decide) ?_
        refine lv_aload_n hx hb dX1_told_76 rfl (lv_at hl 0 rfl) ?_
        refine yget1 F hin1_told w 3 (by decide) (by decide +kernel) (v := .int (yG3 st)) rfl dX1_told_77 ?_
        exact yret hret hf rfl w dX1_told_80
      have hf := y_ifn k_2 hf
      by_cases k_3 : v1 = 1
      · have hf := y_ifp k_3 hf
        refine lv_tableIn (off := 47) (tgt := 81) hx hb dX1_told_34 (by rw [k_3]; decide) (by rw [k_3]; decide) (by rw [k_3]; decide) (by decide) ?_
        refine lv_aload_n hx hb dX1_told_81 rfl (lv_at hl 0 rfl) ?_
        refine yget1 F hin1_told w 4 (by decide) (by decide +kernel) (v := .int (yG4 st)) rfl dX1_told_82 ?_
        exact yret hret hf rfl w dX1_told_85
      have hf := y_ifn k_3 hf
      by_cases k_4 : v1 = 2
      · have hf := y_ifp k_4 hf
        refine lv_tableIn (off := 52) (tgt := 86) hx hb dX1_told_34 (by rw [k_4]; decide) (by rw [k_4]; decide) (by rw [k_4]; decide) (by decide) ?_
        refine lv_aload_n hx hb dX1_told_86 rfl (lv_at hl 0 rfl) ?_
        refine yget1 F hin1_told w 5 (by decide) (by decide +kernel) (v := .int (yG5 st)) rfl dX1_told_87 ?_
        exact yret hret hf rfl w dX1_told_90
      have hf := y_ifn k_4 hf
      by_cases k_5 : v1 = 3
      · have hf := y_ifp k_5 hf
        refine lv_tableIn (off := 57) (tgt := 91) hx hb dX1_told_34 (by rw [k_5]; decide) (by rw [k_5]; decide) (by rw [k_5]; decide) (by decide) ?_
        refine lv_aload_n hx hb dX1_told_91 rfl (lv_at hl 0 rfl) ?_
        refine yget1 F hin1_told w 6 (by decide) (by decide +kernel) (v := .int (yG6 st)) rfl dX1_told_92 ?_
        exact yret hret hf rfl w dX1_told_95
      have hf := y_ifn k_5 hf
      by_cases k_6 : v1 = 4
      · have hf := y_ifp k_6 hf
        refine lv_tableIn (off := 62) (tgt := 96) hx hb dX1_told_34 (by rw [k_6]; decide) (by rw [k_6]; decide) (by rw [k_6]; decide) (by decide) ?_
        refine lv_aload_n hx hb dX1_told_96 rfl (lv_at hl 0 rfl) ?_
        refine yget1 F hin1_told w 7 (by decide) (by decide +kernel) (v := .int (yG7 st)) rfl dX1_told_97 ?_
        exact yret hret hf rfl w dX1_told_100
      have hf := y_ifn k_6 hf
      by_cases k_7 : v1 = 5
      · have hf := y_ifp k_7 hf
        refine lv_tableIn (off := 67) (tgt := 101) hx hb dX1_told_34 (by rw [k_7]; decide) (by rw [k_7]; decide) (by rw [k_7]; decide) (by decide) ?_
        refine lv_aload_n hx hb dX1_told_101 rfl (lv_at hl 0 rfl) ?_
        refine yget1 F hin1_told w 8 (by decide) (by decide +kernel) (v := .int (yG8 st)) rfl dX1_told_102 ?_
        exact yret hret hf rfl w dX1_told_105
      have hf := y_ifn k_7 hf
      by_cases k_8 : v1 = 6
      · have hf := y_ifp k_8 hf
        refine lv_tableIn (off := 72) (tgt := 106) hx hb dX1_told_34 (by rw [k_8]; decide) (by rw [k_8]; decide) (by rw [k_8]; decide) (by decide) ?_
        refine lv_iload_n hx hb dX1_told_106 rfl (lv_at hl 2 rfl) ?_
        exact yret hret hf rfl w dX1_told_107
      have hf := y_ifn k_8 hf
      refine lv_tableOut (tgt := 108) hx hb dX1_told_34 (by have g0 := lv_neT (a := 0) k_2 rfl; have g1 := lv_neT (a := 1) k_3 rfl; have g2 := lv_neT (a := 2) k_4 rfl; have g3 := lv_neT (a := 3) k_5 rfl; have g4 := lv_neT (a := 4) k_6 rfl; have g5 := lv_neT (a := 5) k_7 rfl; have g6 := lv_neT (a := 6) k_8 rfl; omega) (by decide) ?_
      refine lv_bipush (v := (-2)) hx hb dX1_told_108 (by decide) ?_
      exact yret hret hf rfl w dX1_told_110
    · have hf := y_ifn k_1 hf
      refine lv_iload_n hx hb dX1_told_10 rfl (lv_at hl 2 rfl) ?_
      refine lv_aload_n hx hb dX1_told_11 rfl (lv_at hl 0 rfl) ?_
      refine yget1 F hin1_told w 0 (by decide) (by decide +kernel) (v := .ref q1) rfl dX1_told_12 ?_
      refine lv_iload_n hx hb dX1_told_15 rfl (lv_at hl 3 rfl) ?_
      obtain ⟨x_9, hx_9, hf⟩ := y_bd hf
      refine yald0 F w hx_9 dX1_told_16 ?_
      refine lv_if_le (tgt := 24) hx hb dX1_told_17 (by decide) (fun k_10 => ?_) (fun k_10 => ?_)
      · have hf := y_ifp k_10 hf
        refine lv_iconst (v := 0) hx hb dX1_told_24 (by decide) ?_
        refine lv_iadd hx hb dX1_told_25 ?_
        refine lv_istore_n (lv' := [(2, .int (v2 + 0)), (0, .ref h0), (1, .int v1), (3, .int v3)]) hx hb dX1_told_26 rfl hl (by decide) rfl (fun ls hl => ?_)
        refine lv_iinc (v := v3 + 1) (lv' := [(3, .int (v3 + 1)), (2, .int (v2 + 0)), (0, .ref h0), (1, .int v1)]) hx hb dX1_told_27 hl (k := 3) rfl rfl (by decide) rfl (fun ls hl => ?_)
        refine lv_goto (tgt := 4) hx hb dX1_told_30 (by decide) ?_
        exact ih v1 (v2 + 0) (v3 + 1) st hf _ _ _ w (lv_sub hl [2, 3, 1, 0] rfl)
      · have hf := y_ifn k_10 hf
        refine lv_iconst (v := 1) hx hb dX1_told_20 (by decide) ?_
        refine lv_goto (tgt := 25) hx hb dX1_told_21 (by decide) ?_
        refine lv_iadd hx hb dX1_told_25 ?_
        refine lv_istore_n (lv' := [(2, .int (v2 + 1)), (0, .ref h0), (1, .int v1), (3, .int v3)]) hx hb dX1_told_26 rfl hl (by decide) rfl (fun ls hl => ?_)
        refine lv_iinc (v := v3 + 1) (lv' := [(3, .int (v3 + 1)), (2, .int (v2 + 1)), (0, .ref h0), (1, .int v1)]) hx hb dX1_told_27 hl (k := 3) rfl rfl (by decide) rfl (fun ls hl => ?_)
        refine lv_goto (tgt := 4) hx hb dX1_told_30 (by decide) ?_
        exact ih v1 (v2 + 1) (v3 + 1) st hf _ _ _ w (lv_sub hl [2, 3, 1, 0] rfl)
set_option maxHeartbeats 4000000 in
set_option maxRecDepth 100000 in
theorem c1_told (l : Launch) (D : va_G) (a1 : Int32) : yMet l D 1 yX1_told wsX1_told 0 [.int a1] (f1_told a1) := by
  refine yentI (cc := cX1_told) (nL := 4) (ret := .int) (by decide) rfl (fun _ => Nat.le_of_ble_eq_true rfl) ?_
  intro h0 q1 q2 q3 cA r st2 p e s m args below meth c A Q F hA hret st hf H locs ls w hl
  have F : CallFix p m c cX1_told 4 s args wsX1_told RX1 := F
  have hx := F.1
  have hb := F.2.1
  have hl : lv_has ls 4 [(0, .ref h0), (1, .int a1)] := hl
  unfold f1_told at hf
  refine lv_iconst (v := 0) hx hb dX1_told_0 (by decide) ?_
  refine lv_istore_n (lv' := [(2, .int 0), (0, .ref h0), (1, .int a1)]) hx hb dX1_told_1 rfl hl (by decide) rfl (fun ls hl => ?_)
  refine lv_iconst (v := 0) hx hb dX1_told_2 (by decide) ?_
  refine lv_istore_n (lv' := [(3, .int 0), (2, .int 0), (0, .ref h0), (1, .int a1)]) hx hb dX1_told_3 rfl hl (by decide) rfl (fun ls hl => ?_)
  exact b1_told_L4 F hA hret 40 a1 0 0 st hf _ _ _ w (lv_sub hl [2, 3, 1, 0] rfl)
