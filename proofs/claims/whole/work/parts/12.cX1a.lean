theorem y_bool {a b c r : Int32} (h : f1_in a b c = some r) : narrow .boolean (.int r) = .int r := by
  unfold f1_in at h
  by_cases h1 : a < b
  · rw [if_pos h1] at h; cases h; rfl
  · rw [if_neg h1] at h
    by_cases h2 : c < a
    · rw [if_pos h2] at h; cases h; rfl
    · rw [if_neg h2] at h; cases h; rfl
set_option maxHeartbeats 4000000 in
set_option maxRecDepth 100000 in
theorem c1_in (l : Launch) (a0 : Int32) (a1 : Int32) (a2 : Int32) : yMetS l yX1_in wsX1_in 0 [.int a0, .int a1, .int a2] (f1_in a0 a1 a2) := by
  refine yentS (cc := cX1_in) (nL := 3) (ret := .boolean) (by decide) rfl (Nat.le_of_ble_eq_true rfl) ?_
  intro r p e s m args below meth c A Q F hA hret hf H locs ls hS hl
  have F : CallFix p m c cX1_in 3 s args wsX1_in RX1 := F
  have hx := F.1
  have hb := F.2.1
  have hl : lv_has ls 3 [(0, .int a0), (1, .int a1), (2, .int a2)] := hl
  unfold f1_in at hf
  refine lv_iload_n hx hb dX1_in_0 rfl (lv_at hl 0 rfl) ?_
  refine lv_iload_n hx hb dX1_in_1 rfl (lv_at hl 1 rfl) ?_
  refine lv_icmp_lt (tgt := 14) hx hb dX1_in_2 (by decide) (fun k_1 => ?_) (fun k_1 => ?_)
  · have hf := y_ifp k_1 hf
    refine lv_iconst (v := 0) hx hb dX1_in_14 (by decide) ?_
    exact yretS hret hf rfl hS dX1_in_15
  · have hf := y_ifn k_1 hf
    refine lv_iload_n hx hb dX1_in_5 rfl (lv_at hl 0 rfl) ?_
    refine lv_iload_n hx hb dX1_in_6 rfl (lv_at hl 2 rfl) ?_
    refine lv_icmp_gt (tgt := 14) hx hb dX1_in_7 (by decide) (fun k_2 => ?_) (fun k_2 => ?_)
    · have hf := y_ifp k_2 hf
      refine lv_iconst (v := 0) hx hb dX1_in_14 (by decide) ?_
      exact yretS hret hf rfl hS dX1_in_15
    · have hf := y_ifn k_2 hf
      refine lv_iconst (v := 1) hx hb dX1_in_10 (by decide) ?_
      refine lv_goto (tgt := 15) hx hb dX1_in_11 (by decide) ?_
      exact yretS hret hf rfl hS dX1_in_15
set_option maxHeartbeats 4000000 in
set_option maxRecDepth 100000 in
theorem c1_isTrack (l : Launch) (a0 : Int32) : yMetS l yX1_isTrack wsX1_isTrack 1 [.int a0] (f1_isTrack a0) := by
  refine yentS (cc := cX1_isTrack) (nL := 1) (ret := .boolean) (by decide) rfl (Nat.le_of_ble_eq_true rfl) ?_
  intro r p e s m args below meth c A Q F hA hret hf H locs ls hS hl
  have F : CallFix p m c cX1_isTrack 1 s args wsX1_isTrack RX1 := F
  have hx := F.1
  have hb := F.2.1
  have hl : lv_has ls 1 [(0, .int a0)] := hl
  unfold f1_isTrack at hf
  refine lv_iload_n hx hb dX1_isTrack_0 rfl (lv_at hl 0 rfl) ?_
  refine lv_iconst (v := 0) hx hb dX1_isTrack_1 (by decide) ?_
  refine lv_bipush (v := 7) hx hb dX1_isTrack_2 (by decide) ?_
  obtain ⟨u_1, hu_1, hf⟩ := y_bd hf
  refine ycallS (n := 3) (rest := []) F hA (c1_in l a0 0 7) gX1_isTrack_X1_in rfl (by decide +kernel) ⟨Nat.le_of_ble_eq_true rfl, Nat.le_of_ble_eq_true rfl⟩ rfl hl.1 hS hu_1 rfl (Nat.le_of_ble_eq_true rfl) ⟨Nat.zero_le _, Nat.zero_le _⟩ dX1_isTrack_4 (fun H locs _ hS => ?_)
  exact yretS hret hf (y_bool hu_1) hS dX1_isTrack_7
theorem hin1_holds : ∀ w ∈ wsX10, w ∈ wsX1_holds := by decide +kernel
set_option maxHeartbeats 4000000 in
set_option maxRecDepth 100000 in
theorem c1_holds (l : Launch) (D : va_G) (a1 : Int32) : yMet l D 1 yX1_holds wsX1_holds 0 [.int a1] (f1_holds a1) := by
  refine yentI (cc := cX1_holds) (nL := 2) (ret := .boolean) (by decide) rfl (fun _ => Nat.le_of_ble_eq_true rfl) ?_
  intro h0 q1 q2 q3 cA r st2 p e s m args below meth c A Q F hA hret st hf H locs ls w hl
  have F : CallFix p m c cX1_holds 2 s args wsX1_holds RX1 := F
  have hx := F.1
  have hb := F.2.1
  have hl : lv_has ls 2 [(0, .ref h0), (1, .int a1)] := hl
  unfold f1_holds at hf
  refine lv_aload_n hx hb dX1_holds_0 rfl (lv_at hl 0 rfl) ?_
  refine lv_dup hx hb dX1_holds_1 rfl ?_
  refine yget1 F hin1_holds w 3 (by decide) (by decide +kernel) (v := .int (yG3 st)) rfl dX1_holds_2 ?_
  refine lv_iconst (v := 1) hx hb dX1_holds_5 (by decide) ?_
  refine lv_iadd hx hb dX1_holds_6 ?_
  obtain ⟨st_1, hst_1, hf⟩ := y_bd hf
  refine yput1_3 F hin1_holds w (by decide +kernel) hst_1 dX1_holds_7 (fun H locs w => ?_)
  refine lv_aload_n hx hb dX1_holds_10 rfl (lv_at hl 0 rfl) ?_
  refine yget1 F hin1_holds w 0 (by decide) (by decide +kernel) (v := .ref q1) rfl dX1_holds_11 ?_
  refine lv_iload_n hx hb dX1_holds_14 rfl (lv_at hl 1 rfl) ?_
  obtain ⟨x_2, hx_2, hf⟩ := y_bd hf
  refine yald0 F w hx_2 dX1_holds_15 ?_
  refine lv_if_ne (tgt := 21) hx hb dX1_holds_16 (by decide) (fun k_3 => ?_) (fun k_3 => ?_)
  · have hf := y_ifn k_3 hf
    refine lv_aload_n hx hb dX1_holds_21 rfl (lv_at hl 0 rfl) ?_
    refine lv_dup hx hb dX1_holds_22 rfl ?_
    refine yget1 F hin1_holds w 4 (by decide) (by decide +kernel) (v := .int (yG4 st_1)) rfl dX1_holds_23 ?_
    refine lv_iconst (v := 1) hx hb dX1_holds_26 (by decide) ?_
    refine lv_iadd hx hb dX1_holds_27 ?_
    obtain ⟨st_4, hst_4, hf⟩ := y_bd hf
    refine yput1_4 F hin1_holds w (by decide +kernel) hst_4 dX1_holds_28 (fun H locs w => ?_)
    refine lv_aload_n hx hb dX1_holds_31 rfl (lv_at hl 0 rfl) ?_
    refine lv_dup hx hb dX1_holds_32 rfl ?_
    refine yget1 F hin1_holds w 6 (by decide) (by decide +kernel) (v := .int (yG6 st_4)) rfl dX1_holds_33 ?_
    refine lv_iconst (v := 1) hx hb dX1_holds_36 (by decide) ?_
    refine lv_iadd hx hb dX1_holds_37 ?_
    obtain ⟨st_5, hst_5, hf⟩ := y_bd hf
    refine yput1_6 F hin1_holds w (by decide +kernel) hst_5 dX1_holds_38 (fun H locs w => ?_)
    refine lv_aload_n hx hb dX1_holds_41 rfl (lv_at hl 0 rfl) ?_
    refine lv_aload_n hx hb dX1_holds_42 rfl (lv_at hl 0 rfl) ?_
    refine yget1 F hin1_holds w 6 (by decide) (by decide +kernel) (v := .int (yG6 st_5)) rfl dX1_holds_43 ?_
    refine lv_aload_n hx hb dX1_holds_46 rfl (lv_at hl 0 rfl) ?_
    refine yget1 F hin1_holds w 7 (by decide) (by decide +kernel) (v := .int (yG7 st_5)) rfl dX1_holds_47 ?_
    refine lv_icmp_le (tgt := 60) hx hb dX1_holds_50 (by decide) (fun k_6 => ?_) (fun k_6 => ?_)
    · have hf := y_ifp k_6 hf
      refine lv_aload_n hx hb dX1_holds_60 rfl (lv_at hl 0 rfl) ?_
      refine yget1 F hin1_holds w 7 (by decide) (by decide +kernel) (v := .int (yG7 st_5)) rfl dX1_holds_61 ?_
      obtain ⟨st_7, hst_7, hf⟩ := y_bd hf
      refine yput1_7 F hin1_holds w (by decide +kernel) hst_7 dX1_holds_64 (fun H locs w => ?_)
      refine lv_iconst (v := 1) hx hb dX1_holds_67 (by decide) ?_
      exact yret hret hf rfl w dX1_holds_68
    · have hf := y_ifn k_6 hf
      refine lv_aload_n hx hb dX1_holds_53 rfl (lv_at hl 0 rfl) ?_
      refine yget1 F hin1_holds w 6 (by decide) (by decide +kernel) (v := .int (yG6 st_5)) rfl dX1_holds_54 ?_
      refine lv_goto (tgt := 64) hx hb dX1_holds_57 (by decide) ?_
      obtain ⟨st_8, hst_8, hf⟩ := y_bd hf
      refine yput1_7 F hin1_holds w (by decide +kernel) hst_8 dX1_holds_64 (fun H locs w => ?_)
      refine lv_iconst (v := 1) hx hb dX1_holds_67 (by decide) ?_
      exact yret hret hf rfl w dX1_holds_68
  · have hf := y_ifp k_3 hf
    refine lv_iconst (v := 0) hx hb dX1_holds_19 (by decide) ?_
    exact yret hret hf rfl w dX1_holds_20
theorem hin1_goes : ∀ w ∈ wsX10, w ∈ wsX1_goes := by decide +kernel
set_option maxHeartbeats 4000000 in
set_option maxRecDepth 100000 in
theorem c1_goes (l : Launch) (D : va_G) (a1 : Int32) (a2 : Int32) : yMet l D 1 yX1_goes wsX1_goes 0 [.int a1, .int a2] (f1_goes a1 a2) := by
  refine yentI (cc := cX1_goes) (nL := 3) (ret := .int) (by decide) rfl (fun _ => Nat.le_of_ble_eq_true rfl) ?_
  intro h0 q1 q2 q3 cA r st2 p e s m args below meth c A Q F hA hret st hf H locs ls w hl
  have F : CallFix p m c cX1_goes 3 s args wsX1_goes RX1 := F
  have hx := F.1
  have hb := F.2.1
  have hl : lv_has ls 3 [(0, .ref h0), (1, .int a1), (2, .int a2)] := hl
  unfold f1_goes at hf
  refine lv_aload_n hx hb dX1_goes_0 rfl (lv_at hl 0 rfl) ?_
  refine lv_dup hx hb dX1_goes_1 rfl ?_
  refine yget1 F hin1_goes w 6 (by decide) (by decide +kernel) (v := .int (yG6 st)) rfl dX1_goes_2 ?_
  refine lv_iload_n hx hb dX1_goes_5 rfl (lv_at hl 1 rfl) ?_
  refine lv_isub hx hb dX1_goes_6 ?_
  obtain ⟨st_1, hst_1, hf⟩ := y_bd hf
  refine yput1_6 F hin1_goes w (by decide +kernel) hst_1 dX1_goes_7 (fun H locs w => ?_)
  refine lv_iload_n hx hb dX1_goes_10 rfl (lv_at hl 2 rfl) ?_
  refine lv_if_ge (tgt := 24) hx hb dX1_goes_11 (by decide) (fun k_2 => ?_) (fun k_2 => ?_)
  · have hf := y_ifp k_2 hf
    refine lv_iload_n hx hb dX1_goes_24 rfl (lv_at hl 2 rfl) ?_
    exact yret hret hf rfl w dX1_goes_25
  · have hf := y_ifn k_2 hf
    refine lv_aload_n hx hb dX1_goes_14 rfl (lv_at hl 0 rfl) ?_
    refine lv_dup hx hb dX1_goes_15 rfl ?_
    refine yget1 F hin1_goes w 5 (by decide) (by decide +kernel) (v := .int (yG5 st_1)) rfl dX1_goes_16 ?_
    refine lv_iload_n hx hb dX1_goes_19 rfl (lv_at hl 1 rfl) ?_
    refine lv_iadd hx hb dX1_goes_20 ?_
    obtain ⟨st_3, hst_3, hf⟩ := y_bd hf
    refine yput1_5 F hin1_goes w (by decide +kernel) hst_3 dX1_goes_21 (fun H locs w => ?_)
    refine lv_iload_n hx hb dX1_goes_24 rfl (lv_at hl 2 rfl) ?_
    exact yret hret hf rfl w dX1_goes_25
theorem hin1_last : ∀ w ∈ wsX10, w ∈ wsX1_last := by decide +kernel
set_option maxHeartbeats 4000000 in
set_option maxRecDepth 100000 in
theorem c1_last (l : Launch) (D : va_G) (a1 : Int32) : yMet l D 1 yX1_last wsX1_last 0 [.int a1] (f1_last a1) := by
  refine yentI (cc := cX1_last) (nL := 2) (ret := .int) (by decide) rfl (fun _ => Nat.le_of_ble_eq_true rfl) ?_
  intro h0 q1 q2 q3 cA r st2 p e s m args below meth c A Q F hA hret st hf H locs ls w hl
  have F : CallFix p m c cX1_last 2 s args wsX1_last RX1 := F
  have hx := F.1
  have hb := F.2.1
  have hl : lv_has ls 2 [(0, .ref h0), (1, .int a1)] := hl
  unfold f1_last at hf
  refine lv_aload_n hx hb dX1_last_0 rfl (lv_at hl 0 rfl) ?_
  refine yget1 F hin1_last w 2 (by decide) (by decide +kernel) (v := .ref q3) rfl dX1_last_1 ?_
  refine lv_bipush (v := 12) hx hb dX1_last_4 (by decide) ?_
  refine lv_iload_n hx hb dX1_last_6 rfl (lv_at hl 1 rfl) ?_
  refine lv_imul hx hb dX1_last_7 ?_
  refine lv_aload_n hx hb dX1_last_8 rfl (lv_at hl 0 rfl) ?_
  refine yget1 F hin1_last w 1 (by decide) (by decide +kernel) (v := .ref q2) rfl dX1_last_9 ?_
  refine lv_iload_n hx hb dX1_last_12 rfl (lv_at hl 1 rfl) ?_
  obtain ⟨x_1, hx_1, hf⟩ := y_bd hf
  refine yald1 F w hx_1 dX1_last_13 ?_
  refine lv_iadd hx hb dX1_last_14 ?_
  refine lv_iconst (v := 1) hx hb dX1_last_15 (by decide) ?_
  refine lv_isub hx hb dX1_last_16 ?_
  obtain ⟨x_2, hx_2, hf⟩ := y_bd hf
  refine yald2 F w hx_2 dX1_last_17 ?_
  exact yret hret hf rfl w dX1_last_18
theorem hin1_come : ∀ w ∈ wsX10, w ∈ wsX1_come := by decide +kernel
set_option maxHeartbeats 4000000 in
set_option maxRecDepth 100000 in
theorem c1_come (l : Launch) (D : va_G) (a1 : Int32) (a2 : Int32) : yMetV l D 1 yX1_come wsX1_come 0 [.int a1, .int a2] (f1_come a1 a2) := by
  refine yentV (cc := cX1_come) (nL := 3) (by decide) rfl (fun _ => Nat.le_of_ble_eq_true rfl) ?_
  intro h0 q1 q2 q3 cA r st2 p e s m args below meth c A Q F hA hret st hf H locs ls w hl
  have F : CallFix p m c cX1_come 3 s args wsX1_come RX1 := F
  have hx := F.1
  have hb := F.2.1
  have hl : lv_has ls 3 [(0, .ref h0), (1, .int a1), (2, .int a2)] := hl
  unfold f1_come at hf
  refine lv_aload_n hx hb dX1_come_0 rfl (lv_at hl 0 rfl) ?_
  refine yget1 F hin1_come w 2 (by decide) (by decide +kernel) (v := .ref q3) rfl dX1_come_1 ?_
  refine lv_bipush (v := 12) hx hb dX1_come_4 (by decide) ?_
  refine lv_iload_n hx hb dX1_come_6 rfl (lv_at hl 1 rfl) ?_
  refine lv_imul hx hb dX1_come_7 ?_
  refine lv_aload_n hx hb dX1_come_8 rfl (lv_at hl 0 rfl) ?_
  refine yget1 F hin1_come w 1 (by decide) (by decide +kernel) (v := .ref q2) rfl dX1_come_9 ?_
  refine lv_iload_n hx hb dX1_come_12 rfl (lv_at hl 1 rfl) ?_
  obtain ⟨x_1, hx_1, hf⟩ := y_bd hf
  refine yald1 F w hx_1 dX1_come_13 ?_
  refine lv_iadd hx hb dX1_come_14 ?_
  refine lv_iload_n hx hb dX1_come_15 rfl (lv_at hl 2 rfl) ?_
  obtain ⟨st_2, hst_2, hf⟩ := y_bd hf
  refine yast2 F w hst_2 dX1_come_16 (fun H locs w => ?_)
  refine lv_aload_n hx hb dX1_come_17 rfl (lv_at hl 0 rfl) ?_
  refine yget1 F hin1_come w 1 (by decide) (by decide +kernel) (v := .ref q2) rfl dX1_come_18 ?_
  refine lv_iload_n hx hb dX1_come_21 rfl (lv_at hl 1 rfl) ?_
  refine lv_dup2_11 hx hb dX1_come_22 rfl rfl ?_
  obtain ⟨x_3, hx_3, hf⟩ := y_bd hf
  refine yald1 F w hx_3 dX1_come_23 ?_
  refine lv_iconst (v := 1) hx hb dX1_come_24 (by decide) ?_
  refine lv_iadd hx hb dX1_come_25 ?_
  obtain ⟨st_4, hst_4, hf⟩ := y_bd hf
  refine yast1 F w hst_4 dX1_come_26 (fun H locs w => ?_)
  exact yretV hret hf w dX1_come_27
theorem hin1_isFull : ∀ w ∈ wsX10, w ∈ wsX1_isFull := by decide +kernel
set_option maxHeartbeats 4000000 in
set_option maxRecDepth 100000 in
theorem c1_isFull (l : Launch) (D : va_G) (a1 : Int32) : yMet l D 1 yX1_isFull wsX1_isFull 0 [.int a1] (f1_isFull a1) := by
  refine yentI (cc := cX1_isFull) (nL := 2) (ret := .boolean) (by decide) rfl (fun _ => Nat.le_of_ble_eq_true rfl) ?_
  intro h0 q1 q2 q3 cA r st2 p e s m args below meth c A Q F hA hret st hf H locs ls w hl
  have F : CallFix p m c cX1_isFull 2 s args wsX1_isFull RX1 := F
  have hx := F.1
  have hb := F.2.1
  have hl : lv_has ls 2 [(0, .ref h0), (1, .int a1)] := hl
  unfold f1_isFull at hf
  refine lv_aload_n hx hb dX1_isFull_0 rfl (lv_at hl 0 rfl) ?_
  refine yget1 F hin1_isFull w 1 (by decide) (by decide +kernel) (v := .ref q2) rfl dX1_isFull_1 ?_
  refine lv_iload_n hx hb dX1_isFull_4 rfl (lv_at hl 1 rfl) ?_
  obtain ⟨x_1, hx_1, hf⟩ := y_bd hf
  refine yald1 F w hx_1 dX1_isFull_5 ?_
  refine lv_aload_n hx hb dX1_isFull_6 rfl (lv_at hl 0 rfl) ?_
  refine yget1 F hin1_isFull w 0 (by decide) (by decide +kernel) (v := .ref q1) rfl dX1_isFull_7 ?_
  refine lv_iload_n hx hb dX1_isFull_10 rfl (lv_at hl 1 rfl) ?_
  obtain ⟨x_2, hx_2, hf⟩ := y_bd hf
  refine yald0 F w hx_2 dX1_isFull_11 ?_
  refine lv_icmp_ne (tgt := 19) hx hb dX1_isFull_12 (by decide) (fun k_3 => ?_) (fun k_3 => ?_)
  · have hf := y_ifn k_3 hf
    refine lv_iconst (v := 0) hx hb dX1_isFull_19 (by decide) ?_
    exact yret hret hf rfl w dX1_isFull_20
  · have hf := y_ifp k_3 hf
    refine lv_iconst (v := 1) hx hb dX1_isFull_15 (by decide) ?_
    refine lv_goto (tgt := 20) hx hb dX1_isFull_16 (by decide) ?_
    exact yret hret hf rfl w dX1_isFull_20
set_option maxHeartbeats 4000000 in
set_option maxRecDepth 100000 in
theorem c1_trackOf (l : Launch) (a0 : Int64) (a2 : Int32) : yMetS l yX1_trackOf wsX1_trackOf 0 [.long a0, .int a2] (f1_trackOf a0 a2) := by
  refine yentS (cc := cX1_trackOf) (nL := 3) (ret := .int) (by decide) rfl (Nat.le_of_ble_eq_true rfl) ?_
  intro r p e s m args below meth c A Q F hA hret hf H locs ls hS hl
  have F : CallFix p m c cX1_trackOf 3 s args wsX1_trackOf RX1 := F
  have hx := F.1
  have hb := F.2.1
  have hl : lv_has ls 3 [(0, .long a0), (2, .int a2)] := hl
  unfold f1_trackOf at hf
  refine lv_lload_n hx hb dX1_trackOf_0 rfl (lv_at hl 0 rfl) ?_
  refine lv_iconst (v := 3) hx hb dX1_trackOf_1 (by decide) ?_
  refine lv_iload_n hx hb dX1_trackOf_2 rfl (lv_at hl 1 rfl) ?_
  refine lv_imul hx hb dX1_trackOf_3 ?_
  refine lv_lshr hx hb dX1_trackOf_4 rfl ?_
  refine lv_l2i hx hb dX1_trackOf_5 rfl ?_
  refine lv_bipush (v := 7) hx hb dX1_trackOf_6 (by decide) ?_
  refine lv_iand hx hb dX1_trackOf_8 ?_
  exact yretS hret hf rfl hS dX1_trackOf_9
