set_option maxHeartbeats 4000000 in
set_option maxRecDepth 100000 in
theorem c0_isTrack (l : Launch) (a0 : Int32) : yMetS l yX0_isTrack wsX0_isTrack 0 [.int a0] (f0_isTrack a0) := by
  refine yentS (cc := cX0_isTrack) (nL := 1) (ret := .boolean) (by decide) rfl (Nat.le_of_ble_eq_true rfl) ?_
  intro r p e s m args below meth c A Q F hA hret hf H locs ls hS hl
  have F : CallFix p m c cX0_isTrack 1 s args wsX0_isTrack RX0 := F
  have hx := F.1
  have hb := F.2.1
  have hl : lv_has ls 1 [(0, .int a0)] := hl
  unfold f0_isTrack at hf
  refine lv_iload_n hx hb dX0_isTrack_0 rfl (lv_at hl 0 rfl) ?_
  refine lv_if_lt (tgt := 14) hx hb dX0_isTrack_1 (by decide) (fun k_1 => ?_) (fun k_1 => ?_)
  · have hf := y_ifp k_1 hf
    refine lv_iconst (v := 0) hx hb dX0_isTrack_14 (by decide) ?_
    exact yretS hret hf rfl hS dX0_isTrack_15
  · have hf := y_ifn k_1 hf
    refine lv_iload_n hx hb dX0_isTrack_4 rfl (lv_at hl 0 rfl) ?_
    refine lv_bipush (v := 8) hx hb dX0_isTrack_5 (by decide) ?_
    refine lv_icmp_ge (tgt := 14) hx hb dX0_isTrack_7 (by decide) (fun k_2 => ?_) (fun k_2 => ?_)
    · have hf := y_ifp k_2 hf
      refine lv_iconst (v := 0) hx hb dX0_isTrack_14 (by decide) ?_
      exact yretS hret hf rfl hS dX0_isTrack_15
    · have hf := y_ifn k_2 hf
      refine lv_iconst (v := 1) hx hb dX0_isTrack_10 (by decide) ?_
      refine lv_goto (tgt := 15) hx hb dX0_isTrack_11 (by decide) ?_
      exact yretS hret hf rfl hS dX0_isTrack_15
theorem hin0_isThere : ∀ w ∈ wsX00, w ∈ wsX0_isThere := by decide +kernel
set_option maxHeartbeats 4000000 in
set_option maxRecDepth 100000 in
theorem c0_isThere (l : Launch) (D : va_G) (a1 : Int32) : yMet l D 0 yX0_isThere wsX0_isThere 0 [.int a1] (f0_isThere a1) := by
  refine yentI (cc := cX0_isThere) (nL := 2) (ret := .boolean) (by decide) rfl (fun _ => Nat.le_of_ble_eq_true rfl) ?_
  intro h0 q1 q2 q3 cA r st2 p e s m args below meth c A Q F hA hret st hf H locs ls w hl
  have F : CallFix p m c cX0_isThere 2 s args wsX0_isThere RX0 := F
  have hx := F.1
  have hb := F.2.1
  have hl : lv_has ls 2 [(0, .ref h0), (1, .int a1)] := hl
  unfold f0_isThere at hf
  refine lv_aload_n hx hb dX0_isThere_0 rfl (lv_at hl 0 rfl) ?_
  refine yget0 F hin0_isThere w 0 (by decide) (by decide +kernel) (v := .ref q1) rfl dX0_isThere_1 ?_
  refine lv_iload_n hx hb dX0_isThere_4 rfl (lv_at hl 1 rfl) ?_
  obtain ⟨x_1, hx_1, hf⟩ := y_bd hf
  refine yald0 F w hx_1 dX0_isThere_5 ?_
  refine lv_if_le (tgt := 13) hx hb dX0_isThere_6 (by decide) (fun k_2 => ?_) (fun k_2 => ?_)
  · have hf := y_ifp k_2 hf
    refine lv_iconst (v := 0) hx hb dX0_isThere_13 (by decide) ?_
    exact yret hret hf rfl w dX0_isThere_14
  · have hf := y_ifn k_2 hf
    refine lv_iconst (v := 1) hx hb dX0_isThere_9 (by decide) ?_
    refine lv_goto (tgt := 14) hx hb dX0_isThere_10 (by decide) ?_
    exact yret hret hf rfl w dX0_isThere_14
theorem hin0_hold : ∀ w ∈ wsX00, w ∈ wsX0_hold := by decide +kernel
set_option maxHeartbeats 4000000 in
set_option maxRecDepth 100000 in
theorem c0_hold (l : Launch) (D : va_G) (a1 : Int32) : yMet l D 0 yX0_hold wsX0_hold 1 [.int a1] (f0_hold a1) := by
  refine yentI (cc := cX0_hold) (nL := 2) (ret := .boolean) (by decide) rfl (fun _ => Nat.le_of_ble_eq_true rfl) ?_
  intro h0 q1 q2 q3 cA r st2 p e s m args below meth c A Q F hA hret st hf H locs ls w hl
  have F : CallFix p m c cX0_hold 2 s args wsX0_hold RX0 := F
  have hx := F.1
  have hb := F.2.1
  have hl : lv_has ls 2 [(0, .ref h0), (1, .int a1)] := hl
  unfold f0_hold at hf
  refine lv_aload_n hx hb dX0_hold_0 rfl (lv_at hl 0 rfl) ?_
  refine lv_dup hx hb dX0_hold_1 rfl ?_
  refine yget0 F hin0_hold w 3 (by decide) (by decide +kernel) (v := .int (yG3 st)) rfl dX0_hold_2 ?_
  refine lv_iconst (v := 1) hx hb dX0_hold_5 (by decide) ?_
  refine lv_iadd hx hb dX0_hold_6 ?_
  obtain ⟨st_1, hst_1, hf⟩ := y_bd hf
  refine yput0_3 F hin0_hold w (by decide +kernel) hst_1 dX0_hold_7 (fun H locs w => ?_)
  refine lv_aload_n hx hb dX0_hold_10 rfl (lv_at hl 0 rfl) ?_
  refine lv_iload_n hx hb dX0_hold_11 rfl (lv_at hl 1 rfl) ?_
  obtain ⟨u_2, hu_2, hf⟩ := y_bd hf
  refine ycallI (n := 1) (r := u_2.1) (st2 := u_2.2) (rest := []) F hA (c0_isThere l D a1) gX0_hold_X0_isThere rfl (by decide +kernel) rfl ⟨Nat.le_of_ble_eq_true rfl, Nat.le_of_ble_eq_true rfl⟩ rfl hl.1 w hu_2 rfl (Nat.le_of_ble_eq_true rfl) ⟨Nat.zero_le _, Nat.zero_le _⟩ dX0_hold_12 (fun H locs w => ?_)
  refine lv_if_ne (tgt := 20) hx hb dX0_hold_15 (by decide) (fun k_3 => ?_) (fun k_3 => ?_)
  · have hf := y_ifn k_3 hf
    refine lv_aload_n hx hb dX0_hold_20 rfl (lv_at hl 0 rfl) ?_
    refine lv_dup hx hb dX0_hold_21 rfl ?_
    refine yget0 F hin0_hold w 4 (by decide) (by decide +kernel) (v := .int (yG4 u_2.2)) rfl dX0_hold_22 ?_
    refine lv_iconst (v := 1) hx hb dX0_hold_25 (by decide) ?_
    refine lv_iadd hx hb dX0_hold_26 ?_
    obtain ⟨st_4, hst_4, hf⟩ := y_bd hf
    refine yput0_4 F hin0_hold w (by decide +kernel) hst_4 dX0_hold_27 (fun H locs w => ?_)
    refine lv_aload_n hx hb dX0_hold_30 rfl (lv_at hl 0 rfl) ?_
    refine lv_dup hx hb dX0_hold_31 rfl ?_
    refine yget0 F hin0_hold w 6 (by decide) (by decide +kernel) (v := .int (yG6 st_4)) rfl dX0_hold_32 ?_
    refine lv_iconst (v := 1) hx hb dX0_hold_35 (by decide) ?_
    refine lv_iadd hx hb dX0_hold_36 ?_
    obtain ⟨st_5, hst_5, hf⟩ := y_bd hf
    refine yput0_6 F hin0_hold w (by decide +kernel) hst_5 dX0_hold_37 (fun H locs w => ?_)
    refine lv_aload_n hx hb dX0_hold_40 rfl (lv_at hl 0 rfl) ?_
    refine lv_aload_n hx hb dX0_hold_41 rfl (lv_at hl 0 rfl) ?_
    refine yget0 F hin0_hold w 7 (by decide) (by decide +kernel) (v := .int (yG7 st_5)) rfl dX0_hold_42 ?_
    refine lv_aload_n hx hb dX0_hold_45 rfl (lv_at hl 0 rfl) ?_
    refine yget0 F hin0_hold w 6 (by decide) (by decide +kernel) (v := .int (yG6 st_5)) rfl dX0_hold_46 ?_
    refine va_mmax hx hb (F.2.2.1.trans hl.1.symm) F.2.2.2.1 (F.2.2.2.2 (.methodLink RX0 90 Lib.Math.max.name) (by decide +kernel)) (F.2.2.2.2 (.static Lib.Math.max.name) (by decide +kernel)) (F.2.2.2.2 (.initialized "java/lang/Math") (by decide +kernel)) (F.2.2.2.2 (.code Lib.Math.max.name Lib.Math.max.code 2 (some .int)) (by decide +kernel)) (Nat.le_of_ble_eq_true rfl) (Nat.le_of_ble_eq_true rfl) (Nat.zero_le _) (Nat.zero_le _) dX0_hold_49 ?_
    obtain ⟨st_6, hst_6, hf⟩ := y_bd hf
    refine yput0_7 F hin0_hold w (by decide +kernel) hst_6 dX0_hold_52 (fun H locs w => ?_)
    refine lv_iconst (v := 1) hx hb dX0_hold_55 (by decide) ?_
    exact yret hret hf rfl w dX0_hold_56
  · have hf := y_ifp k_3 hf
    refine lv_iconst (v := 0) hx hb dX0_hold_18 (by decide) ?_
    exact yret hret hf rfl w dX0_hold_19
set_option maxHeartbeats 4000000 in
set_option maxRecDepth 100000 in
theorem c0_place (l : Launch) (a0 : Int32) (a1 : Int32) : yMetS l yX0_place wsX0_place 0 [.int a0, .int a1] (f0_place a0 a1) := by
  refine yentS (cc := cX0_place) (nL := 2) (ret := .int) (by decide) rfl (Nat.le_of_ble_eq_true rfl) ?_
  intro r p e s m args below meth c A Q F hA hret hf H locs ls hS hl
  have F : CallFix p m c cX0_place 2 s args wsX0_place RX0 := F
  have hx := F.1
  have hb := F.2.1
  have hl : lv_has ls 2 [(0, .int a0), (1, .int a1)] := hl
  unfold f0_place at hf
  refine lv_iload_n hx hb dX0_place_0 rfl (lv_at hl 0 rfl) ?_
  refine lv_bipush (v := 12) hx hb dX0_place_1 (by decide) ?_
  refine lv_imul hx hb dX0_place_3 ?_
  refine lv_iload_n hx hb dX0_place_4 rfl (lv_at hl 1 rfl) ?_
  refine lv_iadd hx hb dX0_place_5 ?_
  exact yretS hret hf rfl hS dX0_place_6
theorem hin0_come : ∀ w ∈ wsX00, w ∈ wsX0_come := by decide +kernel
set_option maxHeartbeats 4000000 in
set_option maxRecDepth 100000 in
theorem c0_come (l : Launch) (D : va_G) (a1 : Int32) (a2 : Int32) : yMet l D 0 yX0_come wsX0_come 1 [.int a1, .int a2] (f0_come a1 a2) := by
  refine yentI (cc := cX0_come) (nL := 4) (ret := .int) (by decide) rfl (fun _ => Nat.le_of_ble_eq_true rfl) ?_
  intro h0 q1 q2 q3 cA r st2 p e s m args below meth c A Q F hA hret st hf H locs ls w hl
  have F : CallFix p m c cX0_come 4 s args wsX0_come RX0 := F
  have hx := F.1
  have hb := F.2.1
  have hl : lv_has ls 4 [(0, .ref h0), (1, .int a1), (2, .int a2)] := hl
  unfold f0_come at hf
  refine lv_aload_n hx hb dX0_come_0 rfl (lv_at hl 0 rfl) ?_
  refine yget0 F hin0_come w 1 (by decide) (by decide +kernel) (v := .ref q2) rfl dX0_come_1 ?_
  refine lv_iload_n hx hb dX0_come_4 rfl (lv_at hl 1 rfl) ?_
  obtain ⟨x_1, hx_1, hf⟩ := y_bd hf
  refine yald1 F w hx_1 dX0_come_5 ?_
  refine lv_istore_n (lv' := [(3, .int x_1), (0, .ref h0), (1, .int a1), (2, .int a2)]) hx hb dX0_come_6 rfl hl (by decide) rfl (fun ls hl => ?_)
  refine lv_iload_n hx hb dX0_come_7 rfl (lv_at hl 0 rfl) ?_
  refine lv_aload_n hx hb dX0_come_8 rfl (lv_at hl 1 rfl) ?_
  refine yget0 F hin0_come w 0 (by decide) (by decide +kernel) (v := .ref q1) rfl dX0_come_9 ?_
  refine lv_iload_n hx hb dX0_come_12 rfl (lv_at hl 2 rfl) ?_
  obtain ⟨x_2, hx_2, hf⟩ := y_bd hf
  refine yald0 F w hx_2 dX0_come_13 ?_
  refine lv_icmp_lt (tgt := 20) hx hb dX0_come_14 (by decide) (fun k_3 => ?_) (fun k_3 => ?_)
  · have hf := y_ifp k_3 hf
    refine lv_aload_n hx hb dX0_come_20 rfl (lv_at hl 1 rfl) ?_
    refine yget0 F hin0_come w 2 (by decide) (by decide +kernel) (v := .ref q3) rfl dX0_come_21 ?_
    refine lv_iload_n hx hb dX0_come_24 rfl (lv_at hl 2 rfl) ?_
    refine lv_iload_n hx hb dX0_come_25 rfl (lv_at hl 0 rfl) ?_
    obtain ⟨u_4, hu_4, hf⟩ := y_bd hf
    refine ycallSW (n := 2) (rest := [.ref q3]) F hA (c0_place l a1 x_1) gX0_come_X0_place rfl (by decide +kernel) ⟨Nat.le_of_ble_eq_true rfl, Nat.le_of_ble_eq_true rfl⟩ rfl hl.1 w hu_4 rfl (Nat.le_of_ble_eq_true rfl) ⟨Nat.zero_le _, Nat.zero_le _⟩ dX0_come_26 (fun H locs w => ?_)
    refine lv_iload_n hx hb dX0_come_29 rfl (lv_at hl 3 rfl) ?_
    obtain ⟨st_5, hst_5, hf⟩ := y_bd hf
    refine yast2 F w hst_5 dX0_come_30 (fun H locs w => ?_)
    refine lv_aload_n hx hb dX0_come_31 rfl (lv_at hl 1 rfl) ?_
    refine yget0 F hin0_come w 1 (by decide) (by decide +kernel) (v := .ref q2) rfl dX0_come_32 ?_
    refine lv_iload_n hx hb dX0_come_35 rfl (lv_at hl 2 rfl) ?_
    refine lv_iload_n hx hb dX0_come_36 rfl (lv_at hl 0 rfl) ?_
    refine lv_iconst (v := 1) hx hb dX0_come_37 (by decide) ?_
    refine lv_iadd hx hb dX0_come_38 ?_
    obtain ⟨st_6, hst_6, hf⟩ := y_bd hf
    refine yast1 F w hst_6 dX0_come_39 (fun H locs w => ?_)
    refine lv_iload_n hx hb dX0_come_40 rfl (lv_at hl 0 rfl) ?_
    refine lv_iconst (v := 1) hx hb dX0_come_41 (by decide) ?_
    refine lv_iadd hx hb dX0_come_42 ?_
    exact yret hret hf rfl w dX0_come_43
  · have hf := y_ifn k_3 hf
    refine lv_bipush (v := (-4)) hx hb dX0_come_17 (by decide) ?_
    exact yret hret hf rfl w dX0_come_19
theorem hin0_letGo : ∀ w ∈ wsX00, w ∈ wsX0_letGo := by decide +kernel
set_option maxHeartbeats 4000000 in
set_option maxRecDepth 100000 in
theorem c0_letGo (l : Launch) (D : va_G) (a1 : Int32) (a2 : Int32) : yMet l D 0 yX0_letGo wsX0_letGo 0 [.int a1, .int a2] (f0_letGo a1 a2) := by
  refine yentI (cc := cX0_letGo) (nL := 3) (ret := .int) (by decide) rfl (fun _ => Nat.le_of_ble_eq_true rfl) ?_
  intro h0 q1 q2 q3 cA r st2 p e s m args below meth c A Q F hA hret st hf H locs ls w hl
  have F : CallFix p m c cX0_letGo 3 s args wsX0_letGo RX0 := F
  have hx := F.1
  have hb := F.2.1
  have hl : lv_has ls 3 [(0, .ref h0), (1, .int a1), (2, .int a2)] := hl
  unfold f0_letGo at hf
  refine lv_aload_n hx hb dX0_letGo_0 rfl (lv_at hl 0 rfl) ?_
  refine lv_dup hx hb dX0_letGo_1 rfl ?_
  refine yget0 F hin0_letGo w 6 (by decide) (by decide +kernel) (v := .int (yG6 st)) rfl dX0_letGo_2 ?_
  refine lv_iload_n hx hb dX0_letGo_5 rfl (lv_at hl 1 rfl) ?_
  refine lv_isub hx hb dX0_letGo_6 ?_
  obtain ⟨st_1, hst_1, hf⟩ := y_bd hf
  refine yput0_6 F hin0_letGo w (by decide +kernel) hst_1 dX0_letGo_7 (fun H locs w => ?_)
  refine lv_iload_n hx hb dX0_letGo_10 rfl (lv_at hl 2 rfl) ?_
  refine lv_if_ge (tgt := 24) hx hb dX0_letGo_11 (by decide) (fun k_2 => ?_) (fun k_2 => ?_)
  · have hf := y_ifp k_2 hf
    refine lv_iload_n hx hb dX0_letGo_24 rfl (lv_at hl 2 rfl) ?_
    exact yret hret hf rfl w dX0_letGo_25
  · have hf := y_ifn k_2 hf
    refine lv_aload_n hx hb dX0_letGo_14 rfl (lv_at hl 0 rfl) ?_
    refine lv_dup hx hb dX0_letGo_15 rfl ?_
    refine yget0 F hin0_letGo w 5 (by decide) (by decide +kernel) (v := .int (yG5 st_1)) rfl dX0_letGo_16 ?_
    refine lv_iload_n hx hb dX0_letGo_19 rfl (lv_at hl 1 rfl) ?_
    refine lv_iadd hx hb dX0_letGo_20 ?_
    obtain ⟨st_3, hst_3, hf⟩ := y_bd hf
    refine yput0_5 F hin0_letGo w (by decide +kernel) hst_3 dX0_letGo_21 (fun H locs w => ?_)
    refine lv_iload_n hx hb dX0_letGo_24 rfl (lv_at hl 2 rfl) ?_
    exact yret hret hf rfl w dX0_letGo_25
set_option maxHeartbeats 4000000 in
set_option maxRecDepth 100000 in
theorem c0_holdAndCome (l : Launch) (D : va_G) (a1 : Int32) (a2 : Int32) : yMet l D 0 yX0_holdAndCome wsX0_holdAndCome 2 [.int a1, .int a2] (f0_holdAndCome a1 a2) := by
  refine yentI (cc := cX0_holdAndCome) (nL := 3) (ret := .int) (by decide) rfl (fun _ => Nat.le_of_ble_eq_true rfl) ?_
  intro h0 q1 q2 q3 cA r st2 p e s m args below meth c A Q F hA hret st hf H locs ls w hl
  have F : CallFix p m c cX0_holdAndCome 3 s args wsX0_holdAndCome RX0 := F
  have hx := F.1
  have hb := F.2.1
  have hl : lv_has ls 3 [(0, .ref h0), (1, .int a1), (2, .int a2)] := hl
  unfold f0_holdAndCome at hf
  refine lv_aload_n hx hb dX0_holdAndCome_0 rfl (lv_at hl 0 rfl) ?_
  refine lv_iload_n hx hb dX0_holdAndCome_1 rfl (lv_at hl 1 rfl) ?_
  obtain ⟨u_1, hu_1, hf⟩ := y_bd hf
  refine ycallI (n := 1) (r := u_1.1) (st2 := u_1.2) (rest := []) F hA (c0_hold l D a1) gX0_holdAndCome_X0_hold rfl (by decide +kernel) rfl ⟨Nat.le_of_ble_eq_true rfl, Nat.le_of_ble_eq_true rfl⟩ rfl hl.1 w hu_1 rfl (Nat.le_of_ble_eq_true rfl) ⟨Nat.zero_le _, Nat.zero_le _⟩ dX0_holdAndCome_2 (fun H locs w => ?_)
  refine lv_if_ne (tgt := 11) hx hb dX0_holdAndCome_5 (by decide) (fun k_2 => ?_) (fun k_2 => ?_)
  · have hf := y_ifn k_2 hf
    refine lv_aload_n hx hb dX0_holdAndCome_11 rfl (lv_at hl 0 rfl) ?_
    refine lv_iconst (v := 1) hx hb dX0_holdAndCome_12 (by decide) ?_
    refine lv_aload_n hx hb dX0_holdAndCome_13 rfl (lv_at hl 0 rfl) ?_
    refine lv_iload_n hx hb dX0_holdAndCome_14 rfl (lv_at hl 1 rfl) ?_
    refine lv_iload_n hx hb dX0_holdAndCome_15 rfl (lv_at hl 2 rfl) ?_
    obtain ⟨u_3, hu_3, hf⟩ := y_bd hf
    refine ycallI (n := 2) (r := u_3.1) (st2 := u_3.2) (rest := [.int 1, .ref h0]) F hA (c0_come l D a1 a2) gX0_holdAndCome_X0_come rfl (by decide +kernel) rfl ⟨Nat.le_of_ble_eq_true rfl, Nat.le_of_ble_eq_true rfl⟩ rfl hl.1 w hu_3 rfl (Nat.le_of_ble_eq_true rfl) ⟨Nat.zero_le _, Nat.zero_le _⟩ dX0_holdAndCome_16 (fun H locs w => ?_)
    obtain ⟨u_4, hu_4, hf⟩ := y_bd hf
    refine ycallI (n := 2) (r := u_4.1) (st2 := u_4.2) (rest := []) F hA (c0_letGo l D 1 u_3.1) gX0_holdAndCome_X0_letGo rfl (by decide +kernel) rfl ⟨Nat.le_of_ble_eq_true rfl, Nat.le_of_ble_eq_true rfl⟩ rfl hl.1 w hu_4 rfl (Nat.le_of_ble_eq_true rfl) ⟨Nat.zero_le _, Nat.zero_le _⟩ dX0_holdAndCome_19 (fun H locs w => ?_)
    exact yret hret hf rfl w dX0_holdAndCome_22
  · have hf := y_ifp k_2 hf
    refine lv_bipush (v := (-3)) hx hb dX0_holdAndCome_8 (by decide) ?_
    exact yret hret hf rfl w dX0_holdAndCome_10
theorem hin0_go : ∀ w ∈ wsX00, w ∈ wsX0_go := by decide +kernel
set_option maxHeartbeats 4000000 in
set_option maxRecDepth 100000 in
theorem c0_go (l : Launch) (D : va_G) (a1 : Int32) : yMet l D 0 yX0_go wsX0_go 1 [.int a1] (f0_go a1) := by
  refine yentI (cc := cX0_go) (nL := 3) (ret := .int) (by decide) rfl (fun _ => Nat.le_of_ble_eq_true rfl) ?_
  intro h0 q1 q2 q3 cA r st2 p e s m args below meth c A Q F hA hret st hf H locs ls w hl
  have F : CallFix p m c cX0_go 3 s args wsX0_go RX0 := F
  have hx := F.1
  have hb := F.2.1
  have hl : lv_has ls 3 [(0, .ref h0), (1, .int a1)] := hl
  unfold f0_go at hf
  refine lv_aload_n hx hb dX0_go_0 rfl (lv_at hl 0 rfl) ?_
  refine yget0 F hin0_go w 1 (by decide) (by decide +kernel) (v := .ref q2) rfl dX0_go_1 ?_
  refine lv_iload_n hx hb dX0_go_4 rfl (lv_at hl 1 rfl) ?_
  obtain ⟨x_1, hx_1, hf⟩ := y_bd hf
  refine yald1 F w hx_1 dX0_go_5 ?_
  refine lv_istore_n (lv' := [(2, .int x_1), (0, .ref h0), (1, .int a1)]) hx hb dX0_go_6 rfl hl (by decide) rfl (fun ls hl => ?_)
  refine lv_iload_n hx hb dX0_go_7 rfl (lv_at hl 0 rfl) ?_
  refine lv_if_ne (tgt := 14) hx hb dX0_go_8 (by decide) (fun k_2 => ?_) (fun k_2 => ?_)
  · have hf := y_ifn k_2 hf
    refine lv_aload_n hx hb dX0_go_14 rfl (lv_at hl 1 rfl) ?_
    refine yget0 F hin0_go w 1 (by decide) (by decide +kernel) (v := .ref q2) rfl dX0_go_15 ?_
    refine lv_iload_n hx hb dX0_go_18 rfl (lv_at hl 2 rfl) ?_
    refine lv_iload_n hx hb dX0_go_19 rfl (lv_at hl 0 rfl) ?_
    refine lv_iconst (v := 1) hx hb dX0_go_20 (by decide) ?_
    refine lv_isub hx hb dX0_go_21 ?_
    obtain ⟨st_3, hst_3, hf⟩ := y_bd hf
    refine yast1 F w hst_3 dX0_go_22 (fun H locs w => ?_)
    refine lv_aload_n hx hb dX0_go_23 rfl (lv_at hl 1 rfl) ?_
    refine yget0 F hin0_go w 2 (by decide) (by decide +kernel) (v := .ref q3) rfl dX0_go_24 ?_
    refine lv_iload_n hx hb dX0_go_27 rfl (lv_at hl 2 rfl) ?_
    refine lv_iload_n hx hb dX0_go_28 rfl (lv_at hl 0 rfl) ?_
    refine lv_iconst (v := 1) hx hb dX0_go_29 (by decide) ?_
    refine lv_isub hx hb dX0_go_30 ?_
    obtain ⟨u_4, hu_4, hf⟩ := y_bd hf
    refine ycallSW (n := 2) (rest := [.ref q3]) F hA (c0_place l a1 (x_1 - 1)) gX0_go_X0_place rfl (by decide +kernel) ⟨Nat.le_of_ble_eq_true rfl, Nat.le_of_ble_eq_true rfl⟩ rfl hl.1 w hu_4 rfl (Nat.le_of_ble_eq_true rfl) ⟨Nat.zero_le _, Nat.zero_le _⟩ dX0_go_31 (fun H locs w => ?_)
    obtain ⟨x_5, hx_5, hf⟩ := y_bd hf
    refine yald2 F w hx_5 dX0_go_34 ?_
    exact yret hret hf rfl w dX0_go_35
  · have hf := y_ifp k_2 hf
    refine lv_bipush (v := (-5)) hx hb dX0_go_11 (by decide) ?_
    exact yret hret hf rfl w dX0_go_13
theorem hin0_moveWagons : ∀ w ∈ wsX00, w ∈ wsX0_moveWagons := by decide +kernel
set_option maxHeartbeats 4000000 in
set_option maxRecDepth 100000 in
theorem b0_moveWagons_L3 {l : Launch} {D : va_G} {h0 q1 q2 q3 : Nat} {cA : ClassId} {r : Int32} {st2 : St} {p : Program} {e : Env} {s : State} {m : MethodId} {args : Array Value} {below : List Frame} {meth : Method} {c : Code} {A : Nat → Prop} {Q : State → Prop} (F : CallFix p m c cX0_moveWagons 6 s args wsX0_moveWagons RX0) (hA : ∀ q, s.heap.size ≤ q → A q) (hret : yRetI D 0 h0 q1 q2 q3 cA p l e 2 s m args below meth c cX0_moveWagons A Q .int r st2) : ∀ (n : Nat) (v1 : Int32) (v2 : Int32) (v3 : Int32) (v4 : Int32) (st : St), f0_moveWagons_L3 n v1 v2 v3 v4 st = some (r, st2) → ∀ (H : Heap) (locs : List Loc) (ls : Array Slot), Wd D 0 h0 q1 q2 q3 cA A s st H locs → lv_has ls 6 [(0, .ref h0), (1, .int v1), (2, .int v2), (3, .int v3), (4, .int v4)] → W p l e (yrm 2) s m args below meth c H locs 0 0 Q (F0 m 3 ls []) := by
  have hx := F.1
  have hb := F.2.1
  intro n
  induction n with
  | zero =>
    intro v1 v2 v3 v4 st hf
    rw [f0_moveWagons_L3] at hf
    cases hf
  | succ n ih =>
    intro v1 v2 v3 v4 st hf H locs ls w hl
    rw [f0_moveWagons_L3] at hf
    refine lv_iload hx hb dX0_moveWagons_3 (lv_at hl 4 rfl) ?_
    refine lv_iload_n hx hb dX0_moveWagons_5 rfl (lv_at hl 3 rfl) ?_
    refine lv_icmp_ge (tgt := 65) hx hb dX0_moveWagons_6 (by decide) (fun k_1 => ?_) (fun k_1 => ?_)
    · have hf := y_ifp k_1 hf
      refine lv_iload_n hx hb dX0_moveWagons_65 rfl (lv_at hl 3 rfl) ?_
      exact yret hret hf rfl w dX0_moveWagons_66
    · have hf := y_ifn k_1 hf
      refine lv_aload_n hx hb dX0_moveWagons_9 rfl (lv_at hl 0 rfl) ?_
      refine lv_iload_n hx hb dX0_moveWagons_10 rfl (lv_at hl 1 rfl) ?_
      obtain ⟨u_2, hu_2, hf⟩ := y_bd hf
      refine ycallI (n := 1) (r := u_2.1) (st2 := u_2.2) (rest := []) F hA (c0_go l D v1) gX0_moveWagons_X0_go rfl (by decide +kernel) rfl ⟨Nat.le_of_ble_eq_true rfl, Nat.le_of_ble_eq_true rfl⟩ rfl hl.1 w hu_2 rfl (Nat.le_of_ble_eq_true rfl) ⟨Nat.zero_le _, Nat.zero_le _⟩ dX0_moveWagons_11 (fun H locs w => ?_)
      refine lv_istore (lv' := [(5, .int u_2.1), (0, .ref h0), (1, .int v1), (2, .int v2), (3, .int v3), (4, .int v4)]) hx hb dX0_moveWagons_14 hl (by decide) rfl (fun ls hl => ?_)
      refine lv_iload hx hb dX0_moveWagons_16 (lv_at hl 0 rfl) ?_
      refine lv_bipush (v := (-5)) hx hb dX0_moveWagons_18 (by decide) ?_
      refine lv_icmp_ne (tgt := 26) hx hb dX0_moveWagons_20 (by decide) (fun k_3 => ?_) (fun k_3 => ?_)
      · have hf := y_ifn k_3 hf
        refine lv_aload_n hx hb dX0_moveWagons_26 rfl (lv_at hl 1 rfl) ?_
        refine lv_iload_n hx hb dX0_moveWagons_27 rfl (lv_at hl 3 rfl) ?_
        refine lv_iload hx hb dX0_moveWagons_28 (lv_at hl 0 rfl) ?_
        obtain ⟨u_4, hu_4, hf⟩ := y_bd hf
        refine ycallI (n := 2) (r := u_4.1) (st2 := u_4.2) (rest := []) F hA (c0_come l D v2 u_2.1) gX0_moveWagons_X0_come rfl (by decide +kernel) rfl ⟨Nat.le_of_ble_eq_true rfl, Nat.le_of_ble_eq_true rfl⟩ rfl hl.1 w hu_4 rfl (Nat.le_of_ble_eq_true rfl) ⟨Nat.zero_le _, Nat.zero_le _⟩ dX0_moveWagons_30 (fun H locs w => ?_)
        refine lv_bipush (v := (-4)) hx hb dX0_moveWagons_33 (by decide) ?_
        refine lv_icmp_ne (tgt := 49) hx hb dX0_moveWagons_35 (by decide) (fun k_5 => ?_) (fun k_5 => ?_)
        · have hf := y_ifn k_5 hf
          refine lv_aload_n hx hb dX0_moveWagons_49 rfl (lv_at hl 1 rfl) ?_
          refine lv_dup hx hb dX0_moveWagons_50 rfl ?_
          refine yget0 F hin0_moveWagons w 8 (by decide) (by decide +kernel) (v := .int (yG8 u_4.2)) rfl dX0_moveWagons_51 ?_
          refine lv_iconst (v := 1) hx hb dX0_moveWagons_54 (by decide) ?_
          refine lv_iadd hx hb dX0_moveWagons_55 ?_
          obtain ⟨st_6, hst_6, hf⟩ := y_bd hf
          refine yput0_8 F hin0_moveWagons w (by decide +kernel) hst_6 dX0_moveWagons_56 (fun H locs w => ?_)
          refine lv_iinc (v := v4 + 1) (lv' := [(4, .int (v4 + 1)), (5, .int u_2.1), (0, .ref h0), (1, .int v1), (2, .int v2), (3, .int v3)]) hx hb dX0_moveWagons_59 hl (k := 5) rfl rfl (by decide) rfl (fun ls hl => ?_)
          refine lv_goto (tgt := 3) hx hb dX0_moveWagons_62 (by decide) ?_
          exact ih v1 v2 v3 (v4 + 1) st_6 hf _ _ _ w (lv_sub hl [2, 3, 4, 5, 0] rfl)
        · have hf := y_ifp k_5 hf
          refine lv_aload_n hx hb dX0_moveWagons_38 rfl (lv_at hl 1 rfl) ?_
          refine lv_iload_n hx hb dX0_moveWagons_39 rfl (lv_at hl 2 rfl) ?_
          refine lv_iload hx hb dX0_moveWagons_40 (lv_at hl 0 rfl) ?_
          obtain ⟨u_7, hu_7, hf⟩ := y_bd hf
          refine ycallI (n := 2) (r := u_7.1) (st2 := u_7.2) (rest := []) F hA (c0_come l D v1 u_2.1) gX0_moveWagons_X0_come rfl (by decide +kernel) rfl ⟨Nat.le_of_ble_eq_true rfl, Nat.le_of_ble_eq_true rfl⟩ rfl hl.1 w hu_7 rfl (Nat.le_of_ble_eq_true rfl) ⟨Nat.zero_le _, Nat.zero_le _⟩ dX0_moveWagons_42 (fun H locs w => ?_)
          refine lv_pop hx hb dX0_moveWagons_45 rfl ?_
          refine lv_bipush (v := (-4)) hx hb dX0_moveWagons_46 (by decide) ?_
          exact yret hret hf rfl w dX0_moveWagons_48
      · have hf := y_ifp k_3 hf
        refine lv_bipush (v := (-5)) hx hb dX0_moveWagons_23 (by decide) ?_
        exact yret hret hf rfl w dX0_moveWagons_25
set_option maxHeartbeats 4000000 in
set_option maxRecDepth 100000 in
theorem c0_moveWagons (l : Launch) (D : va_G) (a1 : Int32) (a2 : Int32) (a3 : Int32) : yMet l D 0 yX0_moveWagons wsX0_moveWagons 2 [.int a1, .int a2, .int a3] (f0_moveWagons a1 a2 a3) := by
  refine yentI (cc := cX0_moveWagons) (nL := 6) (ret := .int) (by decide) rfl (fun _ => Nat.le_of_ble_eq_true rfl) ?_
  intro h0 q1 q2 q3 cA r st2 p e s m args below meth c A Q F hA hret st hf H locs ls w hl
  have F : CallFix p m c cX0_moveWagons 6 s args wsX0_moveWagons RX0 := F
  have hx := F.1
  have hb := F.2.1
  have hl : lv_has ls 6 [(0, .ref h0), (1, .int a1), (2, .int a2), (3, .int a3)] := hl
  unfold f0_moveWagons at hf
  refine lv_iconst (v := 0) hx hb dX0_moveWagons_0 (by decide) ?_
  refine lv_istore (lv' := [(4, .int 0), (0, .ref h0), (1, .int a1), (2, .int a2), (3, .int a3)]) hx hb dX0_moveWagons_1 hl (by decide) rfl (fun ls hl => ?_)
  exact b0_moveWagons_L3 F hA hret 40 a1 a2 a3 0 st hf _ _ _ w (lv_sub hl [1, 2, 3, 4, 0] rfl)
theorem hin0_sortWagons : ∀ w ∈ wsX00, w ∈ wsX0_sortWagons := by decide +kernel
set_option maxHeartbeats 4000000 in
set_option maxRecDepth 100000 in
theorem b0_sortWagons_L8 {l : Launch} {D : va_G} {h0 q1 q2 q3 : Nat} {cA : ClassId} {r : Int32} {st2 : St} {p : Program} {e : Env} {s : State} {m : MethodId} {args : Array Value} {below : List Frame} {meth : Method} {c : Code} {A : Nat → Prop} {Q : State → Prop} (F : CallFix p m c cX0_sortWagons 8 s args wsX0_sortWagons RX0) (hA : ∀ q, s.heap.size ≤ q → A q) (hret : yRetI D 0 h0 q1 q2 q3 cA p l e 3 s m args below meth c cX0_sortWagons A Q .int r st2) : ∀ (n : Nat) (v1 : Int32) (v2 : Int32) (v3 : Int32) (v4 : Int32) (st : St), f0_sortWagons_L8 n v1 v2 v3 v4 st = some (r, st2) → ∀ (H : Heap) (locs : List Loc) (ls : Array Slot), Wd D 0 h0 q1 q2 q3 cA A s st H locs → lv_has ls 8 [(0, .ref h0), (1, .int v1), (2, .int v2), (3, .int v3), (4, .int v4)] → W p l e (yrm 3) s m args below meth c H locs 0 0 Q (F0 m 8 ls []) := by
  have hx := F.1
  have hb := F.2.1
  intro n
  induction n with
  | zero =>
    intro v1 v2 v3 v4 st hf
    rw [f0_sortWagons_L8] at hf
    cases hf
  | succ n ih =>
    intro v1 v2 v3 v4 st hf H locs ls w hl
    rw [f0_sortWagons_L8] at hf
    refine lv_iload hx hb dX0_sortWagons_8 (lv_at hl 4 rfl) ?_
    refine lv_if_le (tgt := 98) hx hb dX0_sortWagons_10 (by decide) (fun k_2 => ?_) (fun k_2 => ?_)
    · have hf := y_ifp k_2 hf
      refine lv_aload_n hx hb dX0_sortWagons_98 rfl (lv_at hl 0 rfl) ?_
      refine yget0 F hin0_sortWagons w 8 (by decide) (by decide +kernel) (v := .int (yG8 st)) rfl dX0_sortWagons_99 ?_
      exact yret hret hf rfl w dX0_sortWagons_102
    · have hf := y_ifn k_2 hf
      refine lv_aload_n hx hb dX0_sortWagons_13 rfl (lv_at hl 0 rfl) ?_
      refine lv_iload_n hx hb dX0_sortWagons_14 rfl (lv_at hl 1 rfl) ?_
      obtain ⟨u_3, hu_3, hf⟩ := y_bd hf
      refine ycallI (n := 1) (r := u_3.1) (st2 := u_3.2) (rest := []) F hA (c0_go l D v1) gX0_sortWagons_X0_go rfl (by decide +kernel) rfl ⟨Nat.le_of_ble_eq_true rfl, Nat.le_of_ble_eq_true rfl⟩ rfl hl.1 w hu_3 rfl (Nat.le_of_ble_eq_true rfl) ⟨Nat.zero_le _, Nat.zero_le _⟩ dX0_sortWagons_15 (fun H locs w => ?_)
      refine lv_istore (lv' := [(5, .int u_3.1), (0, .ref h0), (1, .int v1), (2, .int v2), (3, .int v3), (4, .int v4)]) hx hb dX0_sortWagons_18 hl (by decide) rfl (fun ls hl => ?_)
      refine lv_iload hx hb dX0_sortWagons_20 (lv_at hl 0 rfl) ?_
      refine lv_bipush (v := 10) hx hb dX0_sortWagons_22 (by decide) ?_
      refine lv_irem hx hb dX0_sortWagons_24 (by decide) ?_
      refine lv_istore (lv' := [(6, .int (u_3.1 - u_3.1 / 10 * 10)), (5, .int u_3.1), (0, .ref h0), (1, .int v1), (2, .int v2), (3, .int v3), (4, .int v4)]) hx hb dX0_sortWagons_25 hl (by decide) rfl (fun ls hl => ?_)
      refine lv_iload hx hb dX0_sortWagons_27 (lv_at hl 0 rfl) ?_
      refine lv_if_ne (tgt := 35) hx hb dX0_sortWagons_29 (by decide) (fun k_4 => ?_) (fun k_4 => ?_)
      · have hf := y_ifn k_4 hf
        refine lv_iload hx hb dX0_sortWagons_35 (lv_at hl 0 rfl) ?_
        refine lv_bipush (v := 9) hx hb dX0_sortWagons_37 (by decide) ?_
        refine lv_icmp_ne (tgt := 45) hx hb dX0_sortWagons_39 (by decide) (fun k_5 => ?_) (fun k_5 => ?_)
        · have hf := y_ifn k_5 hf
          refine lv_aload_n hx hb dX0_sortWagons_45 rfl (lv_at hl 2 rfl) ?_
          refine lv_iload hx hb dX0_sortWagons_46 (lv_at hl 0 rfl) ?_
          refine lv_iconst (v := 2) hx hb dX0_sortWagons_48 (by decide) ?_
          refine lv_irem hx hb dX0_sortWagons_49 (by decide) ?_
          refine lv_iconst (v := 1) hx hb dX0_sortWagons_50 (by decide) ?_
          refine lv_icmp_ne (tgt := 58) hx hb dX0_sortWagons_51 (by decide) (fun k_6 => ?_) (fun k_6 => ?_)
          · have hf := y_ifn k_6 hf
            refine lv_iload_n hx hb dX0_sortWagons_58 rfl (lv_at hl 5 rfl) ?_
            refine lv_iload hx hb dX0_sortWagons_59 (lv_at hl 1 rfl) ?_
            obtain ⟨u_7, hu_7, hf⟩ := y_bd hf
            refine ycallI (n := 2) (r := u_7.1) (st2 := u_7.2) (rest := []) F hA (c0_holdAndCome l D v3 u_3.1) gX0_sortWagons_X0_holdAndCome rfl (by decide +kernel) rfl ⟨Nat.le_of_ble_eq_true rfl, Nat.le_of_ble_eq_true rfl⟩ rfl hl.1 w hu_7 rfl (Nat.le_of_ble_eq_true rfl) ⟨Nat.zero_le _, Nat.zero_le _⟩ dX0_sortWagons_61 (fun H locs w => ?_)
            refine lv_istore (lv' := [(7, .int u_7.1), (6, .int (u_3.1 - u_3.1 / 10 * 10)), (5, .int u_3.1), (0, .ref h0), (1, .int v1), (2, .int v2), (3, .int v3), (4, .int v4)]) hx hb dX0_sortWagons_64 hl (by decide) rfl (fun ls hl => ?_)
            refine lv_iload hx hb dX0_sortWagons_66 (lv_at hl 0 rfl) ?_
            refine lv_if_ge (tgt := 82) hx hb dX0_sortWagons_68 (by decide) (fun k_8 => ?_) (fun k_8 => ?_)
            · have hf := y_ifp k_8 hf
              refine lv_aload_n hx hb dX0_sortWagons_82 rfl (lv_at hl 3 rfl) ?_
              refine lv_dup hx hb dX0_sortWagons_83 rfl ?_
              refine yget0 F hin0_sortWagons w 8 (by decide) (by decide +kernel) (v := .int (yG8 u_7.2)) rfl dX0_sortWagons_84 ?_
              refine lv_iconst (v := 1) hx hb dX0_sortWagons_87 (by decide) ?_
              refine lv_iadd hx hb dX0_sortWagons_88 ?_
              obtain ⟨st_9, hst_9, hf⟩ := y_bd hf
              refine yput0_8 F hin0_sortWagons w (by decide +kernel) hst_9 dX0_sortWagons_89 (fun H locs w => ?_)
              refine lv_iinc (v := v4 + (-1)) (lv' := [(4, .int (v4 + (-1))), (7, .int u_7.1), (6, .int (u_3.1 - u_3.1 / 10 * 10)), (5, .int u_3.1), (0, .ref h0), (1, .int v1), (2, .int v2), (3, .int v3)]) hx hb dX0_sortWagons_92 hl (k := 7) rfl rfl (by decide) rfl (fun ls hl => ?_)
              refine lv_goto (tgt := 8) hx hb dX0_sortWagons_95 (by decide) ?_
              exact ih v1 v2 v3 (v4 + (-1)) st_9 hf _ _ _ w (lv_sub hl [4, 5, 6, 7, 0] rfl)
            · have hf := y_ifn k_8 hf
              refine lv_aload_n hx hb dX0_sortWagons_71 rfl (lv_at hl 3 rfl) ?_
              refine lv_iload_n hx hb dX0_sortWagons_72 rfl (lv_at hl 4 rfl) ?_
              refine lv_iload hx hb dX0_sortWagons_73 (lv_at hl 2 rfl) ?_
              obtain ⟨u_10, hu_10, hf⟩ := y_bd hf
              refine ycallI (n := 2) (r := u_10.1) (st2 := u_10.2) (rest := []) F hA (c0_come l D v1 u_3.1) gX0_sortWagons_X0_come rfl (by decide +kernel) rfl ⟨Nat.le_of_ble_eq_true rfl, Nat.le_of_ble_eq_true rfl⟩ rfl hl.1 w hu_10 rfl (Nat.le_of_ble_eq_true rfl) ⟨Nat.zero_le _, Nat.zero_le _⟩ dX0_sortWagons_75 (fun H locs w => ?_)
              refine lv_pop hx hb dX0_sortWagons_78 rfl ?_
              refine lv_iload hx hb dX0_sortWagons_79 (lv_at hl 0 rfl) ?_
              exact yret hret hf rfl w dX0_sortWagons_81
          · have hf := y_ifp k_6 hf
            refine lv_iload_n hx hb dX0_sortWagons_54 rfl (lv_at hl 4 rfl) ?_
            refine lv_goto (tgt := 59) hx hb dX0_sortWagons_55 (by decide) ?_
            refine lv_iload hx hb dX0_sortWagons_59 (lv_at hl 1 rfl) ?_
            obtain ⟨u_11, hu_11, hf⟩ := y_bd hf
            refine ycallI (n := 2) (r := u_11.1) (st2 := u_11.2) (rest := []) F hA (c0_holdAndCome l D v2 u_3.1) gX0_sortWagons_X0_holdAndCome rfl (by decide +kernel) rfl ⟨Nat.le_of_ble_eq_true rfl, Nat.le_of_ble_eq_true rfl⟩ rfl hl.1 w hu_11 rfl (Nat.le_of_ble_eq_true rfl) ⟨Nat.zero_le _, Nat.zero_le _⟩ dX0_sortWagons_61 (fun H locs w => ?_)
            refine lv_istore (lv' := [(7, .int u_11.1), (6, .int (u_3.1 - u_3.1 / 10 * 10)), (5, .int u_3.1), (0, .ref h0), (1, .int v1), (2, .int v2), (3, .int v3), (4, .int v4)]) hx hb dX0_sortWagons_64 hl (by decide) rfl (fun ls hl => ?_)
            refine lv_iload hx hb dX0_sortWagons_66 (lv_at hl 0 rfl) ?_
            refine lv_if_ge (tgt := 82) hx hb dX0_sortWagons_68 (by decide) (fun k_12 => ?_) (fun k_12 => ?_)
            · have hf := y_ifp k_12 hf
              refine lv_aload_n hx hb dX0_sortWagons_82 rfl (lv_at hl 3 rfl) ?_
              refine lv_dup hx hb dX0_sortWagons_83 rfl ?_
              refine yget0 F hin0_sortWagons w 8 (by decide) (by decide +kernel) (v := .int (yG8 u_11.2)) rfl dX0_sortWagons_84 ?_
              refine lv_iconst (v := 1) hx hb dX0_sortWagons_87 (by decide) ?_
              refine lv_iadd hx hb dX0_sortWagons_88 ?_
              obtain ⟨st_13, hst_13, hf⟩ := y_bd hf
              refine yput0_8 F hin0_sortWagons w (by decide +kernel) hst_13 dX0_sortWagons_89 (fun H locs w => ?_)
              refine lv_iinc (v := v4 + (-1)) (lv' := [(4, .int (v4 + (-1))), (7, .int u_11.1), (6, .int (u_3.1 - u_3.1 / 10 * 10)), (5, .int u_3.1), (0, .ref h0), (1, .int v1), (2, .int v2), (3, .int v3)]) hx hb dX0_sortWagons_92 hl (k := 7) rfl rfl (by decide) rfl (fun ls hl => ?_)
              refine lv_goto (tgt := 8) hx hb dX0_sortWagons_95 (by decide) ?_
              exact ih v1 v2 v3 (v4 + (-1)) st_13 hf _ _ _ w (lv_sub hl [4, 5, 6, 7, 0] rfl)
            · have hf := y_ifn k_12 hf
              refine lv_aload_n hx hb dX0_sortWagons_71 rfl (lv_at hl 3 rfl) ?_
              refine lv_iload_n hx hb dX0_sortWagons_72 rfl (lv_at hl 4 rfl) ?_
              refine lv_iload hx hb dX0_sortWagons_73 (lv_at hl 2 rfl) ?_
              obtain ⟨u_14, hu_14, hf⟩ := y_bd hf
              refine ycallI (n := 2) (r := u_14.1) (st2 := u_14.2) (rest := []) F hA (c0_come l D v1 u_3.1) gX0_sortWagons_X0_come rfl (by decide +kernel) rfl ⟨Nat.le_of_ble_eq_true rfl, Nat.le_of_ble_eq_true rfl⟩ rfl hl.1 w hu_14 rfl (Nat.le_of_ble_eq_true rfl) ⟨Nat.zero_le _, Nat.zero_le _⟩ dX0_sortWagons_75 (fun H locs w => ?_)
              refine lv_pop hx hb dX0_sortWagons_78 rfl ?_
              refine lv_iload hx hb dX0_sortWagons_79 (lv_at hl 0 rfl) ?_
              exact yret hret hf rfl w dX0_sortWagons_81
        · have hf := y_ifp k_5 hf
          refine lv_goto (tgt := 92) hx hb dX0_sortWagons_42 (by decide) ?_
          refine lv_iinc (v := v4 + (-1)) (lv' := [(4, .int (v4 + (-1))), (6, .int (u_3.1 - u_3.1 / 10 * 10)), (5, .int u_3.1), (0, .ref h0), (1, .int v1), (2, .int v2), (3, .int v3)]) hx hb dX0_sortWagons_92 hl (k := 6) rfl rfl (by decide) rfl (fun ls hl => ?_)
          refine lv_goto (tgt := 8) hx hb dX0_sortWagons_95 (by decide) ?_
          exact ih v1 v2 v3 (v4 + (-1)) u_3.2 hf _ _ _ w (lv_sub hl [3, 4, 5, 6, 0] rfl)
      · have hf := y_ifp k_4 hf
        refine lv_goto (tgt := 98) hx hb dX0_sortWagons_32 (by decide) ?_
        refine lv_aload_n hx hb dX0_sortWagons_98 rfl (lv_at hl 2 rfl) ?_
        refine yget0 F hin0_sortWagons w 8 (by decide) (by decide +kernel) (v := .int (yG8 u_3.2)) rfl dX0_sortWagons_99 ?_
        exact yret hret hf rfl w dX0_sortWagons_102
set_option maxHeartbeats 4000000 in
set_option maxRecDepth 100000 in
theorem c0_sortWagons (l : Launch) (D : va_G) (a1 : Int32) (a2 : Int32) (a3 : Int32) : yMet l D 0 yX0_sortWagons wsX0_sortWagons 3 [.int a1, .int a2, .int a3] (f0_sortWagons a1 a2 a3) := by
  refine yentI (cc := cX0_sortWagons) (nL := 8) (ret := .int) (by decide) rfl (fun _ => Nat.le_of_ble_eq_true rfl) ?_
  intro h0 q1 q2 q3 cA r st2 p e s m args below meth c A Q F hA hret st hf H locs ls w hl
  have F : CallFix p m c cX0_sortWagons 8 s args wsX0_sortWagons RX0 := F
  have hx := F.1
  have hb := F.2.1
  have hl : lv_has ls 8 [(0, .ref h0), (1, .int a1), (2, .int a2), (3, .int a3)] := hl
  unfold f0_sortWagons at hf
  refine lv_aload_n hx hb dX0_sortWagons_0 rfl (lv_at hl 0 rfl) ?_
  refine yget0 F hin0_sortWagons w 1 (by decide) (by decide +kernel) (v := .ref q2) rfl dX0_sortWagons_1 ?_
  refine lv_iload_n hx hb dX0_sortWagons_4 rfl (lv_at hl 1 rfl) ?_
  obtain ⟨x_1, hx_1, hf⟩ := y_bd hf
  refine yald1 F w hx_1 dX0_sortWagons_5 ?_
  refine lv_istore (lv' := [(4, .int x_1), (0, .ref h0), (1, .int a1), (2, .int a2), (3, .int a3)]) hx hb dX0_sortWagons_6 hl (by decide) rfl (fun ls hl => ?_)
  exact b0_sortWagons_L8 F hA hret 40 a1 a2 a3 x_1 st hf _ _ _ w (lv_sub hl [1, 2, 3, 4, 0] rfl)
set_option maxHeartbeats 4000000 in
set_option maxRecDepth 100000 in
theorem c0_isRowLength (l : Launch) (a0 : Int32) : yMetS l yX0_isRowLength wsX0_isRowLength 0 [.int a0] (f0_isRowLength a0) := by
  refine yentS (cc := cX0_isRowLength) (nL := 1) (ret := .boolean) (by decide) rfl (Nat.le_of_ble_eq_true rfl) ?_
  intro r p e s m args below meth c A Q F hA hret hf H locs ls hS hl
  have F : CallFix p m c cX0_isRowLength 1 s args wsX0_isRowLength RX0 := F
  have hx := F.1
  have hb := F.2.1
  have hl : lv_has ls 1 [(0, .int a0)] := hl
  unfold f0_isRowLength at hf
  refine lv_iload_n hx hb dX0_isRowLength_0 rfl (lv_at hl 0 rfl) ?_
  refine lv_iconst (v := 1) hx hb dX0_isRowLength_1 (by decide) ?_
  refine lv_icmp_lt (tgt := 15) hx hb dX0_isRowLength_2 (by decide) (fun k_1 => ?_) (fun k_1 => ?_)
  · have hf := y_ifp k_1 hf
    refine lv_iconst (v := 0) hx hb dX0_isRowLength_15 (by decide) ?_
    exact yretS hret hf rfl hS dX0_isRowLength_16
  · have hf := y_ifn k_1 hf
    refine lv_iload_n hx hb dX0_isRowLength_5 rfl (lv_at hl 0 rfl) ?_
    refine lv_bipush (v := 16) hx hb dX0_isRowLength_6 (by decide) ?_
    refine lv_icmp_gt (tgt := 15) hx hb dX0_isRowLength_8 (by decide) (fun k_2 => ?_) (fun k_2 => ?_)
    · have hf := y_ifp k_2 hf
      refine lv_iconst (v := 0) hx hb dX0_isRowLength_15 (by decide) ?_
      exact yretS hret hf rfl hS dX0_isRowLength_16
    · have hf := y_ifn k_2 hf
      refine lv_iconst (v := 1) hx hb dX0_isRowLength_11 (by decide) ?_
      refine lv_goto (tgt := 16) hx hb dX0_isRowLength_12 (by decide) ?_
      exact yretS hret hf rfl hS dX0_isRowLength_16
set_option maxHeartbeats 4000000 in
set_option maxRecDepth 100000 in
theorem c0_trackOfRow (l : Launch) (a0 : Int64) (a2 : Int32) : yMetS l yX0_trackOfRow wsX0_trackOfRow 0 [.long a0, .int a2] (f0_trackOfRow a0 a2) := by
  refine yentS (cc := cX0_trackOfRow) (nL := 3) (ret := .int) (by decide) rfl (Nat.le_of_ble_eq_true rfl) ?_
  intro r p e s m args below meth c A Q F hA hret hf H locs ls hS hl
  have F : CallFix p m c cX0_trackOfRow 3 s args wsX0_trackOfRow RX0 := F
  have hx := F.1
  have hb := F.2.1
  have hl : lv_has ls 3 [(0, .long a0), (2, .int a2)] := hl
  unfold f0_trackOfRow at hf
  refine lv_lload_n hx hb dX0_trackOfRow_0 rfl (lv_at hl 0 rfl) ?_
  refine lv_iconst (v := 3) hx hb dX0_trackOfRow_1 (by decide) ?_
  refine lv_iload_n hx hb dX0_trackOfRow_2 rfl (lv_at hl 1 rfl) ?_
  refine lv_imul hx hb dX0_trackOfRow_3 ?_
  refine lv_lushr hx hb dX0_trackOfRow_4 rfl ?_
  refine lv_l2i hx hb dX0_trackOfRow_5 rfl ?_
  refine lv_bipush (v := 7) hx hb dX0_trackOfRow_6 (by decide) ?_
  refine lv_iand hx hb dX0_trackOfRow_8 ?_
  exact yretS hret hf rfl hS dX0_trackOfRow_9
theorem hin0_takeOnTour : ∀ w ∈ wsX00, w ∈ wsX0_takeOnTour := by decide +kernel
set_option maxHeartbeats 4000000 in
set_option maxRecDepth 100000 in
theorem c0_takeOnTour (l : Launch) (D : va_G) (a1 : Int32) : yMet l D 0 yX0_takeOnTour wsX0_takeOnTour 2 [.int a1] (f0_takeOnTour a1) := by
  refine yentI (cc := cX0_takeOnTour) (nL := 3) (ret := .int) (by decide) rfl (fun _ => Nat.le_of_ble_eq_true rfl) ?_
  intro h0 q1 q2 q3 cA r st2 p e s m args below meth c A Q F hA hret st hf H locs ls w hl
  have F : CallFix p m c cX0_takeOnTour 3 s args wsX0_takeOnTour RX0 := F
  have hx := F.1
  have hb := F.2.1
  have hl : lv_has ls 3 [(0, .ref h0), (1, .int a1)] := hl
  unfold f0_takeOnTour at hf
  refine lv_aload_n hx hb dX0_takeOnTour_0 rfl (lv_at hl 0 rfl) ?_
  refine lv_iload_n hx hb dX0_takeOnTour_1 rfl (lv_at hl 1 rfl) ?_
  obtain ⟨u_1, hu_1, hf⟩ := y_bd hf
  refine ycallI (n := 1) (r := u_1.1) (st2 := u_1.2) (rest := []) F hA (c0_go l D a1) gX0_takeOnTour_X0_go rfl (by decide +kernel) rfl ⟨Nat.le_of_ble_eq_true rfl, Nat.le_of_ble_eq_true rfl⟩ rfl hl.1 w hu_1 rfl (Nat.le_of_ble_eq_true rfl) ⟨Nat.zero_le _, Nat.zero_le _⟩ dX0_takeOnTour_2 (fun H locs w => ?_)
  refine lv_istore_n (lv' := [(2, .int u_1.1), (0, .ref h0), (1, .int a1)]) hx hb dX0_takeOnTour_5 rfl hl (by decide) rfl (fun ls hl => ?_)
  refine lv_iload_n hx hb dX0_takeOnTour_6 rfl (lv_at hl 0 rfl) ?_
  refine lv_bipush (v := 10) hx hb dX0_takeOnTour_7 (by decide) ?_
  refine lv_irem hx hb dX0_takeOnTour_9 (by decide) ?_
  refine lv_bipush (v := 9) hx hb dX0_takeOnTour_10 (by decide) ?_
  refine lv_icmp_ne (tgt := 24) hx hb dX0_takeOnTour_12 (by decide) (fun k_2 => ?_) (fun k_2 => ?_)
  · have hf := y_ifn k_2 hf
    refine lv_aload_n hx hb dX0_takeOnTour_24 rfl (lv_at hl 1 rfl) ?_
    refine lv_dup hx hb dX0_takeOnTour_25 rfl ?_
    refine yget0 F hin0_takeOnTour w 8 (by decide) (by decide +kernel) (v := .int (yG8 u_1.2)) rfl dX0_takeOnTour_26 ?_
    refine lv_iconst (v := 1) hx hb dX0_takeOnTour_29 (by decide) ?_
    refine lv_iadd hx hb dX0_takeOnTour_30 ?_
    obtain ⟨st_3, hst_3, hf⟩ := y_bd hf
    refine yput0_8 F hin0_takeOnTour w (by decide +kernel) hst_3 dX0_takeOnTour_31 (fun H locs w => ?_)
    refine lv_iload_n hx hb dX0_takeOnTour_34 rfl (lv_at hl 0 rfl) ?_
    exact yret hret hf rfl w dX0_takeOnTour_35
  · have hf := y_ifp k_2 hf
    refine lv_aload_n hx hb dX0_takeOnTour_15 rfl (lv_at hl 1 rfl) ?_
    refine lv_iload_n hx hb dX0_takeOnTour_16 rfl (lv_at hl 2 rfl) ?_
    refine lv_iload_n hx hb dX0_takeOnTour_17 rfl (lv_at hl 0 rfl) ?_
    obtain ⟨u_4, hu_4, hf⟩ := y_bd hf
    refine ycallI (n := 2) (r := u_4.1) (st2 := u_4.2) (rest := []) F hA (c0_come l D a1 u_1.1) gX0_takeOnTour_X0_come rfl (by decide +kernel) rfl ⟨Nat.le_of_ble_eq_true rfl, Nat.le_of_ble_eq_true rfl⟩ rfl hl.1 w hu_4 rfl (Nat.le_of_ble_eq_true rfl) ⟨Nat.zero_le _, Nat.zero_le _⟩ dX0_takeOnTour_18 (fun H locs w => ?_)
    refine lv_pop hx hb dX0_takeOnTour_21 rfl ?_
    refine lv_iconst (v := 0) hx hb dX0_takeOnTour_22 (by decide) ?_
    exact yret hret hf rfl w dX0_takeOnTour_23
theorem hin0_exchangePlaces : ∀ w ∈ wsX00, w ∈ wsX0_exchangePlaces := by decide +kernel
set_option maxHeartbeats 4000000 in
set_option maxRecDepth 100000 in
theorem c0_exchangePlaces (l : Launch) (D : va_G) (a1 : Int32) (a2 : Int32) : yMetV l D 0 yX0_exchangePlaces wsX0_exchangePlaces 0 [.int a1, .int a2] (f0_exchangePlaces a1 a2) := by
  refine yentV (cc := cX0_exchangePlaces) (nL := 4) (by decide) rfl (fun _ => Nat.le_of_ble_eq_true rfl) ?_
  intro h0 q1 q2 q3 cA r st2 p e s m args below meth c A Q F hA hret st hf H locs ls w hl
  have F : CallFix p m c cX0_exchangePlaces 4 s args wsX0_exchangePlaces RX0 := F
  have hx := F.1
  have hb := F.2.1
  have hl : lv_has ls 4 [(0, .ref h0), (1, .int a1), (2, .int a2)] := hl
  unfold f0_exchangePlaces at hf
  refine lv_aload_n hx hb dX0_exchangePlaces_0 rfl (lv_at hl 0 rfl) ?_
  refine yget0 F hin0_exchangePlaces w 2 (by decide) (by decide +kernel) (v := .ref q3) rfl dX0_exchangePlaces_1 ?_
  refine lv_iload_n hx hb dX0_exchangePlaces_4 rfl (lv_at hl 1 rfl) ?_
  obtain ⟨x_1, hx_1, hf⟩ := y_bd hf
  refine yald2 F w hx_1 dX0_exchangePlaces_5 ?_
  refine lv_istore_n (lv' := [(3, .int x_1), (0, .ref h0), (1, .int a1), (2, .int a2)]) hx hb dX0_exchangePlaces_6 rfl hl (by decide) rfl (fun ls hl => ?_)
  refine lv_aload_n hx hb dX0_exchangePlaces_7 rfl (lv_at hl 1 rfl) ?_
  refine yget0 F hin0_exchangePlaces w 2 (by decide) (by decide +kernel) (v := .ref q3) rfl dX0_exchangePlaces_8 ?_
  refine lv_iload_n hx hb dX0_exchangePlaces_11 rfl (lv_at hl 2 rfl) ?_
  refine lv_aload_n hx hb dX0_exchangePlaces_12 rfl (lv_at hl 1 rfl) ?_
  refine yget0 F hin0_exchangePlaces w 2 (by decide) (by decide +kernel) (v := .ref q3) rfl dX0_exchangePlaces_13 ?_
  refine lv_iload_n hx hb dX0_exchangePlaces_16 rfl (lv_at hl 3 rfl) ?_
  obtain ⟨x_2, hx_2, hf⟩ := y_bd hf
  refine yald2 F w hx_2 dX0_exchangePlaces_17 ?_
  obtain ⟨st_3, hst_3, hf⟩ := y_bd hf
  refine yast2 F w hst_3 dX0_exchangePlaces_18 (fun H locs w => ?_)
  refine lv_aload_n hx hb dX0_exchangePlaces_19 rfl (lv_at hl 1 rfl) ?_
  refine yget0 F hin0_exchangePlaces w 2 (by decide) (by decide +kernel) (v := .ref q3) rfl dX0_exchangePlaces_20 ?_
  refine lv_iload_n hx hb dX0_exchangePlaces_23 rfl (lv_at hl 3 rfl) ?_
  refine lv_iload_n hx hb dX0_exchangePlaces_24 rfl (lv_at hl 0 rfl) ?_
  obtain ⟨st_4, hst_4, hf⟩ := y_bd hf
  refine yast2 F w hst_4 dX0_exchangePlaces_25 (fun H locs w => ?_)
  exact yretV hret hf w dX0_exchangePlaces_26
theorem hin0_exchangeRows : ∀ w ∈ wsX00, w ∈ wsX0_exchangeRows := by decide +kernel
set_option maxHeartbeats 4000000 in
set_option maxRecDepth 100000 in
theorem b0_exchangeRows_L42 {l : Launch} {D : va_G} {h0 q1 q2 q3 : Nat} {cA : ClassId} {r : Int32} {st2 : St} {p : Program} {e : Env} {s : State} {m : MethodId} {args : Array Value} {below : List Frame} {meth : Method} {c : Code} {A : Nat → Prop} {Q : State → Prop} (F : CallFix p m c cX0_exchangeRows 6 s args wsX0_exchangeRows RX0) (hA : ∀ q, s.heap.size ≤ q → A q) (hret : yRetI D 0 h0 q1 q2 q3 cA p l e 1 s m args below meth c cX0_exchangeRows A Q .int r st2) : ∀ (n : Nat) (v1 : Int32) (v2 : Int32) (v3 : Int32) (v4 : Int32) (v5 : Int32) (st : St), f0_exchangeRows_L42 n v1 v2 v3 v4 v5 st = some (r, st2) → ∀ (H : Heap) (locs : List Loc) (ls : Array Slot), Wd D 0 h0 q1 q2 q3 cA A s st H locs → lv_has ls 6 [(0, .ref h0), (1, .int v1), (2, .int v2), (3, .int v3), (4, .int v4), (5, .int v5)] → W p l e (yrm 1) s m args below meth c H locs 0 0 Q (F0 m 42 ls []) := by
  have hx := F.1
  have hb := F.2.1
  intro n
  induction n with
  | zero =>
    intro v1 v2 v3 v4 v5 st hf
    rw [f0_exchangeRows_L42] at hf
    cases hf
  | succ n ih =>
    intro v1 v2 v3 v4 v5 st hf H locs ls w hl
    rw [f0_exchangeRows_L42] at hf
    refine lv_iload hx hb dX0_exchangeRows_42 (lv_at hl 5 rfl) ?_
    refine lv_bipush (v := 12) hx hb dX0_exchangeRows_44 (by decide) ?_
    refine lv_icmp_ge (tgt := 71) hx hb dX0_exchangeRows_46 (by decide) (fun k_7 => ?_) (fun k_7 => ?_)
    · have hf := y_ifp k_7 hf
      refine lv_aload_n hx hb dX0_exchangeRows_71 rfl (lv_at hl 0 rfl) ?_
      refine yget0 F hin0_exchangeRows w 1 (by decide) (by decide +kernel) (v := .ref q2) rfl dX0_exchangeRows_72 ?_
      refine lv_iload_n hx hb dX0_exchangeRows_75 rfl (lv_at hl 1 rfl) ?_
      refine lv_iload hx hb dX0_exchangeRows_76 (lv_at hl 4 rfl) ?_
      obtain ⟨st_8, hst_8, hf⟩ := y_bd hf
      refine yast1 F w hst_8 dX0_exchangeRows_78 (fun H locs w => ?_)
      refine lv_aload_n hx hb dX0_exchangeRows_79 rfl (lv_at hl 0 rfl) ?_
      refine yget0 F hin0_exchangeRows w 1 (by decide) (by decide +kernel) (v := .ref q2) rfl dX0_exchangeRows_80 ?_
      refine lv_iload_n hx hb dX0_exchangeRows_83 rfl (lv_at hl 2 rfl) ?_
      refine lv_iload_n hx hb dX0_exchangeRows_84 rfl (lv_at hl 3 rfl) ?_
      obtain ⟨st_9, hst_9, hf⟩ := y_bd hf
      refine yast1 F w hst_9 dX0_exchangeRows_85 (fun H locs w => ?_)
      refine lv_iload hx hb dX0_exchangeRows_86 (lv_at hl 4 rfl) ?_
      exact yret hret hf rfl w dX0_exchangeRows_88
    · have hf := y_ifn k_7 hf
      refine lv_aload_n hx hb dX0_exchangeRows_49 rfl (lv_at hl 0 rfl) ?_
      refine lv_iload_n hx hb dX0_exchangeRows_50 rfl (lv_at hl 1 rfl) ?_
      refine lv_iload hx hb dX0_exchangeRows_51 (lv_at hl 5 rfl) ?_
      obtain ⟨u_10, hu_10, hf⟩ := y_bd hf
      refine ycallSW (n := 2) (rest := [.ref h0]) F hA (c0_place l v1 v5) gX0_exchangeRows_X0_place rfl (by decide +kernel) ⟨Nat.le_of_ble_eq_true rfl, Nat.le_of_ble_eq_true rfl⟩ rfl hl.1 w hu_10 rfl (Nat.le_of_ble_eq_true rfl) ⟨Nat.zero_le _, Nat.zero_le _⟩ dX0_exchangeRows_53 (fun H locs w => ?_)
      refine lv_iload_n hx hb dX0_exchangeRows_56 rfl (lv_at hl 2 rfl) ?_
      refine lv_iload hx hb dX0_exchangeRows_57 (lv_at hl 5 rfl) ?_
      obtain ⟨u_11, hu_11, hf⟩ := y_bd hf
      refine ycallSW (n := 2) (rest := [.int u_10, .ref h0]) F hA (c0_place l v2 v5) gX0_exchangeRows_X0_place rfl (by decide +kernel) ⟨Nat.le_of_ble_eq_true rfl, Nat.le_of_ble_eq_true rfl⟩ rfl hl.1 w hu_11 rfl (Nat.le_of_ble_eq_true rfl) ⟨Nat.zero_le _, Nat.zero_le _⟩ dX0_exchangeRows_59 (fun H locs w => ?_)
      obtain ⟨u_12, hu_12, hf⟩ := y_bd hf
      refine ycallV (n := 2) (r := u_12.1) (st2 := u_12.2) (rest := []) F hA (c0_exchangePlaces l D u_10 u_11) gX0_exchangeRows_X0_exchangePlaces rfl (by decide +kernel) rfl ⟨Nat.le_of_ble_eq_true rfl, Nat.le_of_ble_eq_true rfl⟩ rfl hl.1 w hu_12 rfl (Nat.le_of_ble_eq_true rfl) ⟨Nat.zero_le _, Nat.zero_le _⟩ dX0_exchangeRows_62 (fun H locs w => ?_)
      refine lv_iinc (v := v5 + 1) (lv' := [(5, .int (v5 + 1)), (0, .ref h0), (1, .int v1), (2, .int v2), (3, .int v3), (4, .int v4)]) hx hb dX0_exchangeRows_65 hl (k := 5) rfl rfl (by decide) rfl (fun ls hl => ?_)
      refine lv_goto (tgt := 42) hx hb dX0_exchangeRows_68 (by decide) ?_
      exact ih v1 v2 v3 v4 (v5 + 1) u_12.2 hf _ _ _ w (lv_sub hl [1, 2, 3, 4, 5, 0] rfl)
set_option maxHeartbeats 4000000 in
set_option maxRecDepth 100000 in
theorem c0_exchangeRows (l : Launch) (D : va_G) (a1 : Int32) (a2 : Int32) : yMet l D 0 yX0_exchangeRows wsX0_exchangeRows 1 [.int a1, .int a2] (f0_exchangeRows a1 a2) := by
  refine yentI (cc := cX0_exchangeRows) (nL := 6) (ret := .int) (by decide) rfl (fun _ => Nat.le_of_ble_eq_true rfl) ?_
  intro h0 q1 q2 q3 cA r st2 p e s m args below meth c A Q F hA hret st hf H locs ls w hl
  have F : CallFix p m c cX0_exchangeRows 6 s args wsX0_exchangeRows RX0 := F
  have hx := F.1
  have hb := F.2.1
  have hl : lv_has ls 6 [(0, .ref h0), (1, .int a1), (2, .int a2)] := hl
  unfold f0_exchangeRows at hf
  refine lv_aload_n hx hb dX0_exchangeRows_0 rfl (lv_at hl 0 rfl) ?_
  refine yget0 F hin0_exchangeRows w 1 (by decide) (by decide +kernel) (v := .ref q2) rfl dX0_exchangeRows_1 ?_
  refine lv_iload_n hx hb dX0_exchangeRows_4 rfl (lv_at hl 1 rfl) ?_
  obtain ⟨x_1, hx_1, hf⟩ := y_bd hf
  refine yald1 F w hx_1 dX0_exchangeRows_5 ?_
  refine lv_istore_n (lv' := [(3, .int x_1), (0, .ref h0), (1, .int a1), (2, .int a2)]) hx hb dX0_exchangeRows_6 rfl hl (by decide) rfl (fun ls hl => ?_)
  refine lv_aload_n hx hb dX0_exchangeRows_7 rfl (lv_at hl 1 rfl) ?_
  refine yget0 F hin0_exchangeRows w 1 (by decide) (by decide +kernel) (v := .ref q2) rfl dX0_exchangeRows_8 ?_
  refine lv_iload_n hx hb dX0_exchangeRows_11 rfl (lv_at hl 3 rfl) ?_
  obtain ⟨x_2, hx_2, hf⟩ := y_bd hf
  refine yald1 F w hx_2 dX0_exchangeRows_12 ?_
  refine lv_istore (lv' := [(4, .int x_2), (3, .int x_1), (0, .ref h0), (1, .int a1), (2, .int a2)]) hx hb dX0_exchangeRows_13 hl (by decide) rfl (fun ls hl => ?_)
  refine lv_iload_n hx hb dX0_exchangeRows_15 rfl (lv_at hl 1 rfl) ?_
  refine lv_aload_n hx hb dX0_exchangeRows_16 rfl (lv_at hl 2 rfl) ?_
  refine yget0 F hin0_exchangeRows w 0 (by decide) (by decide +kernel) (v := .ref q1) rfl dX0_exchangeRows_17 ?_
  refine lv_iload_n hx hb dX0_exchangeRows_20 rfl (lv_at hl 4 rfl) ?_
  obtain ⟨x_3, hx_3, hf⟩ := y_bd hf
  refine yald0 F w hx_3 dX0_exchangeRows_21 ?_
  refine lv_icmp_gt (tgt := 36) hx hb dX0_exchangeRows_22 (by decide) (fun k_4 => ?_) (fun k_4 => ?_)
  · have hf := y_ifp k_4 hf
    refine lv_bipush (v := (-4)) hx hb dX0_exchangeRows_36 (by decide) ?_
    exact yret hret hf rfl w dX0_exchangeRows_38
  · have hf := y_ifn k_4 hf
    refine lv_iload hx hb dX0_exchangeRows_25 (lv_at hl 0 rfl) ?_
    refine lv_aload_n hx hb dX0_exchangeRows_27 rfl (lv_at hl 2 rfl) ?_
    refine yget0 F hin0_exchangeRows w 0 (by decide) (by decide +kernel) (v := .ref q1) rfl dX0_exchangeRows_28 ?_
    refine lv_iload_n hx hb dX0_exchangeRows_31 rfl (lv_at hl 3 rfl) ?_
    obtain ⟨x_5, hx_5, hf⟩ := y_bd hf
    refine yald0 F w hx_5 dX0_exchangeRows_32 ?_
    refine lv_icmp_le (tgt := 39) hx hb dX0_exchangeRows_33 (by decide) (fun k_6 => ?_) (fun k_6 => ?_)
    · have hf := y_ifp k_6 hf
      refine lv_iconst (v := 0) hx hb dX0_exchangeRows_39 (by decide) ?_
      refine lv_istore (lv' := [(5, .int 0), (4, .int x_2), (3, .int x_1), (0, .ref h0), (1, .int a1), (2, .int a2)]) hx hb dX0_exchangeRows_40 hl (by decide) rfl (fun ls hl => ?_)
      exact b0_exchangeRows_L42 F hA hret 40 a1 a2 x_1 x_2 0 st hf _ _ _ w (lv_sub hl [3, 4, 5, 2, 1, 0] rfl)
    · have hf := y_ifn k_6 hf
      refine lv_bipush (v := (-4)) hx hb dX0_exchangeRows_36 (by decide) ?_
      exact yret hret hf rfl w dX0_exchangeRows_38
set_option maxHeartbeats 4000000 in
set_option maxRecDepth 100000 in
theorem b0_tracksThere_L4 {l : Launch} {D : va_G} {h0 q1 q2 q3 : Nat} {cA : ClassId} {r : Int32} {st2 : St} {p : Program} {e : Env} {s : State} {m : MethodId} {args : Array Value} {below : List Frame} {meth : Method} {c : Code} {A : Nat → Prop} {Q : State → Prop} (F : CallFix p m c cX0_tracksThere 3 s args wsX0_tracksThere RX0) (hA : ∀ q, s.heap.size ≤ q → A q) (hret : yRetI D 0 h0 q1 q2 q3 cA p l e 1 s m args below meth c cX0_tracksThere A Q .int r st2) : ∀ (n : Nat) (v1 : Int32) (v2 : Int32) (st : St), f0_tracksThere_L4 n v1 v2 st = some (r, st2) → ∀ (H : Heap) (locs : List Loc) (ls : Array Slot), Wd D 0 h0 q1 q2 q3 cA A s st H locs → lv_has ls 3 [(0, .ref h0), (1, .int v1), (2, .int v2)] → W p l e (yrm 1) s m args below meth c H locs 0 0 Q (F0 m 4 ls []) := by
  have hx := F.1
  have hb := F.2.1
  intro n
  induction n with
  | zero =>
    intro v1 v2 st hf
    rw [f0_tracksThere_L4] at hf
    cases hf
  | succ n ih =>
    intro v1 v2 st hf H locs ls w hl
    rw [f0_tracksThere_L4] at hf
    refine lv_iload_n hx hb dX0_tracksThere_4 rfl (lv_at hl 2 rfl) ?_
    refine lv_bipush (v := 8) hx hb dX0_tracksThere_5 (by decide) ?_
    refine lv_icmp_ge (tgt := 27) hx hb dX0_tracksThere_7 (by decide) (fun k_1 => ?_) (fun k_1 => ?_)
    · have hf := y_ifp k_1 hf
      refine lv_iload_n hx hb dX0_tracksThere_27 rfl (lv_at hl 1 rfl) ?_
      exact yret hret hf rfl w dX0_tracksThere_28
    · have hf := y_ifn k_1 hf
      refine lv_aload_n hx hb dX0_tracksThere_10 rfl (lv_at hl 0 rfl) ?_
      refine lv_iload_n hx hb dX0_tracksThere_11 rfl (lv_at hl 2 rfl) ?_
      obtain ⟨u_2, hu_2, hf⟩ := y_bd hf
      refine ycallI (n := 1) (r := u_2.1) (st2 := u_2.2) (rest := []) F hA (c0_isThere l D v2) gX0_tracksThere_X0_isThere rfl (by decide +kernel) rfl ⟨Nat.le_of_ble_eq_true rfl, Nat.le_of_ble_eq_true rfl⟩ rfl hl.1 w hu_2 rfl (Nat.le_of_ble_eq_true rfl) ⟨Nat.zero_le _, Nat.zero_le _⟩ dX0_tracksThere_12 (fun H locs w => ?_)
      refine lv_if_eq (tgt := 21) hx hb dX0_tracksThere_15 (by decide) (fun k_3 => ?_) (fun k_3 => ?_)
      · have hf := y_ifp k_3 hf
        refine lv_iinc (v := v2 + 1) (lv' := [(2, .int (v2 + 1)), (0, .ref h0), (1, .int v1)]) hx hb dX0_tracksThere_21 hl (k := 2) rfl rfl (by decide) rfl (fun ls hl => ?_)
        refine lv_goto (tgt := 4) hx hb dX0_tracksThere_24 (by decide) ?_
        exact ih v1 (v2 + 1) u_2.2 hf _ _ _ w (lv_sub hl [1, 2, 0] rfl)
      · have hf := y_ifn k_3 hf
        refine lv_iinc (v := v1 + 1) (lv' := [(1, .int (v1 + 1)), (0, .ref h0), (2, .int v2)]) hx hb dX0_tracksThere_18 hl (k := 1) rfl rfl (by decide) rfl (fun ls hl => ?_)
        refine lv_iinc (v := v2 + 1) (lv' := [(2, .int (v2 + 1)), (1, .int (v1 + 1)), (0, .ref h0)]) hx hb dX0_tracksThere_21 hl (k := 2) rfl rfl (by decide) rfl (fun ls hl => ?_)
        refine lv_goto (tgt := 4) hx hb dX0_tracksThere_24 (by decide) ?_
        exact ih (v1 + 1) (v2 + 1) u_2.2 hf _ _ _ w (lv_sub hl [2, 1, 0] rfl)
set_option maxHeartbeats 4000000 in
set_option maxRecDepth 100000 in
theorem c0_tracksThere (l : Launch) (D : va_G) : yMet l D 0 yX0_tracksThere wsX0_tracksThere 1 [] (f0_tracksThere) := by
  refine yentI (cc := cX0_tracksThere) (nL := 3) (ret := .int) (by decide) rfl (fun _ => Nat.le_of_ble_eq_true rfl) ?_
  intro h0 q1 q2 q3 cA r st2 p e s m args below meth c A Q F hA hret st hf H locs ls w hl
  have F : CallFix p m c cX0_tracksThere 3 s args wsX0_tracksThere RX0 := F
  have hx := F.1
  have hb := F.2.1
  have hl : lv_has ls 3 [(0, .ref h0)] := hl
  unfold f0_tracksThere at hf
  refine lv_iconst (v := 0) hx hb dX0_tracksThere_0 (by decide) ?_
  refine lv_istore_n (lv' := [(1, .int 0), (0, .ref h0)]) hx hb dX0_tracksThere_1 rfl hl (by decide) rfl (fun ls hl => ?_)
  refine lv_iconst (v := 0) hx hb dX0_tracksThere_2 (by decide) ?_
  refine lv_istore_n (lv' := [(2, .int 0), (1, .int 0), (0, .ref h0)]) hx hb dX0_tracksThere_3 rfl hl (by decide) rfl (fun ls hl => ?_)
  exact b0_tracksThere_L4 F hA hret 40 0 0 st hf _ _ _ w (lv_sub hl [2, 1, 0] rfl)
