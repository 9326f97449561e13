/-! The tracks of a row, and the methods that go along one. -/
theorem z_sm : ∀ k, k < 48 → ((nI k).toInt64 &&& 63).toBitVec.smod 64 = BitVec.ofNat 64 k := by decide +kernel
theorem z_um : ∀ k, k < 48 → ((nI k).toInt64.toUInt64 &&& Int64.toUInt64 63).toBitVec % 64 = BitVec.ofNat 64 k := by decide +kernel
theorem z_tn : ∀ k, k < 48 → (BitVec.ofNat 64 k).toNat = k := by decide +kernel
theorem z_bits (X : BitVec 64) {k : Nat} (hk : k ≤ 45) : (X >>> k).setWidth 32 &&& 7#32 = (X.sshiftRight k).setWidth 32 &&& 7#32 := by
  apply BitVec.eq_of_getLsbD_eq
  intro b hb
  rw [BitVec.getLsbD_and, BitVec.getLsbD_and, BitVec.getLsbD_setWidth, BitVec.getLsbD_setWidth, BitVec.getLsbD_sshiftRight, BitVec.getLsbD_ushiftRight]
  by_cases h3 : b < 3
  · have h1 : ¬ 64 ≤ b := by omega
    have h2 : k + b < 64 := by omega
    simp [h1, h2]
  · have h7 : (7#32).getLsbD b = false := by
      have : ∀ b, b < 32 → ¬ b < 3 → (7#32).getLsbD b = false := by decide
      exact this b hb h3
    rw [h7, Bool.and_false, Bool.and_false]
theorem z_track (row : Int64) {i : Nat} (hi : i < 16) : ∃ j, j < 8 ∧ f0_trackOfRow row (nI i) = some (nI j) ∧ f1_trackOf row (nI i) = some (nI j) := by
  have e3 : (3 : Int32) * nI i = nI (3 * i) := pk_mul 3 i
  unfold f0_trackOfRow f1_trackOf
  rw [e3]
  have hk : 3 * i < 48 := by omega
  have hk2 : 3 * i ≤ 45 := by omega
  generalize 3 * i = k at hk hk2
  have e : (((row.toUInt64 >>> ((nI k).toInt64.toUInt64 &&& Int64.toUInt64 63)).toInt64).toInt32) &&& 7 = ((row >>> ((nI k).toInt64 &&& 63)).toInt32) &&& 7 := by
    apply Int32.toBitVec_inj.mp
    rw [Int32.toBitVec_and, Int32.toBitVec_and, Int64.toBitVec_toInt32, Int64.toBitVec_toInt32, Int64.toBitVec_shiftRight, z_sm k hk]
    rw [UInt64.toBitVec_toInt64, UInt64.toBitVec_shiftRight, z_um k hk]
    rw [BitVec.sshiftRight_eq', BitVec.ushiftRight_eq', z_tn k hk]
    rw [BitVec.signExtend_eq_setWidth_of_le _ (by decide), BitVec.signExtend_eq_setWidth_of_le _ (by decide)]
    exact z_bits _ hk2
  obtain ⟨j, hj, ej⟩ := pk_andE ((row >>> ((nI k).toInt64 &&& 63)).toInt32) (m := 7) 3 rfl
  exact ⟨j, hj, by rw [e, ej], by rw [ej]⟩
theorem z_row (a : Int32) : (∃ N, N ≤ 16 ∧ a = nI N ∧ f0_isRowLength a = some 1 ∧ f1_in a 1 16 = some 1) ∨ (f0_isRowLength a = some 0 ∧ f1_in a 1 16 = some 0) := by
  unfold f0_isRowLength f1_in
  by_cases h1 : a < 1
  · right; rw [if_pos h1]; exact ⟨rfl, rfl⟩
  · by_cases h2 : 16 < a
    · right; rw [if_neg h1, if_pos h2]; exact ⟨rfl, rfl⟩
    · left
      obtain ⟨N, hN, e⟩ := nI_of2 (x := a) (M := 16) (n := 16) rfl (z_lt0 h1) (Int32.not_lt.mp h2)
      refine ⟨N, hN, e, ?_, ?_⟩ <;> rw [if_neg h1, if_neg h2]
theorem z_chain (row : Int64) : ∀ (n i N : Nat) (x : Int32) (st : St), Inv st → N ≤ 16 → i ≤ N → N < i + n → yOK (f0_chain_L16 n row (nI N) x (nI i) st) (f1_chain_L19 n row (nI N) x (nI i) st) := by
  intro n
  induction n with
  | zero => intro i N x st _ _ _ h; omega
  | succ n ih =>
    intro i N x st hI hN hi hn
    rw [f0_chain_L16, f1_chain_L19]
    by_cases q : i = N
    · subst q
      have h : nI i ≤ nI i := Int32.le_refl _
      simp only [if_pos h, z_l0, z_l1, Option.bind_some]
      exact ⟨_, _, rfl, rfl, zL_I hI⟩
    · have h : ¬ nI N ≤ nI i := nI_ge (by omega) (by omega)
      obtain ⟨j, hj, e0, e1⟩ := z_track row (i := i) (by omega)
      simp only [if_neg h, e0, e1, Option.bind_some]
      by_cases g : yG0 st j = 0
      · simp only [z_h0n hj g, z_h1n hj g, Option.bind_some, ↓reduceIte, z_l0, z_l1]
        exact ⟨_, _, rfl, rfl, zL_I hI⟩
      · simp only [z_h0y hI hj g, z_h1y hj g, Option.bind_some, if_neg z_01, z_r8 hj, nI_1]
        exact ih (i + 1) N _ (zH1 st) hI hN (by omega) (by omega)
theorem pu_chain (a : Int64) (b : Int32) {st : St} (hI : Inv st) : yOK (f0_chain a b st) (f1_chain a b st) := by
  unfold f0_chain f1_chain
  rcases z_row b with ⟨N, hN, rfl, h0, h1⟩ | ⟨h0, h1⟩
  · simp only [h0, h1, Option.bind_some, if_neg z_01]
    exact z_chain a 40 0 N 0 st hI hN (by omega) (by omega)
  · simp only [h0, h1, Option.bind_some, ↓reduceIte]
    exact ⟨_, _, rfl, rfl, hI⟩
theorem z_survey (row : Int64) : ∀ (n i N : Nat) (x : Int32) (st : St), Inv st → N ≤ 16 → i ≤ N → N < i + n → yOK (f0_survey_L16 n row (nI N) x (nI i) st) (f1_survey_L19 n row (nI N) x (nI i) st) := by
  intro n
  induction n with
  | zero => intro i N x st _ _ _ h; omega
  | succ n ih =>
    intro i N x st hI hN hi hn
    rw [f0_survey_L16, f1_survey_L19]
    by_cases q : i = N
    · subst q
      have h : nI i ≤ nI i := Int32.le_refl _
      simp only [if_pos h]
      exact ⟨_, _, rfl, rfl, hI⟩
    · have h : ¬ nI N ≤ nI i := nI_ge (by omega) (by omega)
      obtain ⟨j, hj, e0, e1⟩ := z_track row (i := i) (by omega)
      simp only [if_neg h, e0, e1, Option.bind_some]
      by_cases g : yG0 st j = 0
      · simp only [z_h0n hj g, z_h1n hj g, Option.bind_some, ↓reduceIte, nI_1]
        exact ih (i + 1) N _ (zH0 st) hI hN (by omega) (by omega)
      · simp only [z_h0y hI hj g, z_h1y hj g, Option.bind_some, if_neg z_01, z_r8 hj, nI_1, z_l0, z_l1]
        exact ih (i + 1) N _ _ (zL_I (st := zH1 st) hI) hN (by omega) (by omega)
theorem pu_survey (a : Int64) (b : Int32) {st : St} (hI : Inv st) : yOK (f0_survey a b st) (f1_survey a b st) := by
  unfold f0_survey f1_survey
  rcases z_row b with ⟨N, hN, rfl, h0, h1⟩ | ⟨h0, h1⟩
  · simp only [h0, h1, Option.bind_some, if_neg z_01]
    exact z_survey a 40 0 N 0 st hI hN (by omega) (by omega)
  · simp only [h0, h1, Option.bind_some, ↓reduceIte]
    exact ⟨_, _, rfl, rfl, hI⟩
/-- a wagon that went and comes back: the state is as it was -/
theorem z_back {st : St} {j : Nat} (hI : Inv st) (h : yG1 st j ≠ 0) : zC j (zW j st) (zG j st) = st := by
  obtain ⟨r, c, w', e0, e1, e2, h1, h2, h3⟩ := hI j
  obtain ⟨d, rfl⟩ : ∃ d, c = d + 1 := ⟨c - 1, by
    rcases Nat.eq_zero_or_pos c with q | q
    · subst q; exact absurd e1 h
    · omega⟩
  have a1 : yG1 (zG j st) j = nI d := by
    show (if j = j then yG1 st j - 1 else yG1 st j) = nI d
    rw [if_pos rfl, e1, nI_pred]
  unfold zC
  rw [a1, nI_clamp (by omega), nI_1]
  have b2 : upd (yG2 (zG j st)) (j * 12 + d) (zW j st) = yG2 st := by
    refine z_u ?_
    unfold zW
    rw [e1, nI_clamp (by omega)]
    rfl
  have b1 : upd (yG1 (zG j st)) j (nI (d + 1)) = yG1 st := by
    funext k
    show (if k = j then nI (d + 1) else if k = j then yG1 st j - 1 else yG1 st k) = yG1 st k
    by_cases q : k = j
    · rw [if_pos q, q, e1]
    · rw [if_neg q, if_neg q]
  rw [b1, b2]
  rfl
theorem z_tour (row : Int64) : ∀ (n n' i N : Nat) (x : Int32) (st : St), Inv st → N ≤ 16 → i ≤ N → N < i + n → N + 1 < i + n' → yOK (f0_tour_L21 n row (nI N) x (nI i) st) (f1_tour_L27 n' row (nI N) x 1 (nI i) st) := by
  intro n
  induction n with
  | zero => intro n' i N x st _ _ _ h; omega
  | succ n ih =>
    intro n' i N x st hI hN hi hn hn'
    obtain ⟨m, rfl⟩ : ∃ m, n' = m + 2 := ⟨n' - 2, by omega⟩
    rw [f0_tour_L21, f1_tour_L27]
    by_cases q : i = N
    · subst q
      have h : nI i ≤ nI i := Int32.le_refl _
      simp only [if_pos h]
      exact ⟨_, _, rfl, rfl, hI⟩
    · have h : ¬ nI N ≤ nI i := nI_ge (by omega) (by omega)
      obtain ⟨j, hj, e0, e1⟩ := z_track row (i := i) (by omega)
      simp only [if_neg h, e0, e1, Option.bind_some, if_neg z_01]
      by_cases g : yG0 st j = 0
      · simp only [z_h0n hj g, z_h1n hj g, Option.bind_some, ↓reduceIte]
        exact ⟨_, _, rfl, rfl, hI⟩
      · have hI1 : Inv (zH1 st) := hI
        simp only [z_h0y hI hj g, z_h1y hj g, Option.bind_some, if_neg z_01, z_r8 hj]
        by_cases c0 : yG1 (zH1 st) j = 0
        · simp only [if_pos c0, Option.bind_some, z_l0, z_l1]
          rw [f1_tour_L27]
          refine ⟨_, _, rfl, ?_, zL_I hI1⟩
          by_cases c1 : nI N ≤ nI i + 1
          · rw [if_pos c1]
          · rw [if_neg c1, if_pos rfl]
        · unfold f0_takeOnTour
          simp only [if_neg c0, z_g0 hI1 hj c0, z_la hI1 hj c0, Option.bind_some, z_l0, z_l1, z_w1 hj, z_r8 hj, nI_1]
          by_cases c9 : zW j (zH1 st) - zW j (zH1 st) / 10 * 10 = 9
          · obtain ⟨gI, gF⟩ := zG_I hI1 c0
            simp only [if_pos c9, (z_c0 gI hj gF).1, Option.bind_some, z_back hI1 c0, Int32.add_zero]
            exact ih (m + 1) (i + 1) N x _ (zL_I hI1) hN (by omega) (by omega) (by omega)
          · simp only [if_neg c9, Option.bind_some, yP8]
            exact ih (m + 1) (i + 1) N _ _ (zL_I (st := yS8 (zG j (zH1 st)) _) (zG_I hI1 c0).1) hN (by omega) (by omega) (by omega)
theorem pu_tour (a : Int64) (b : Int32) {st : St} (hI : Inv st) : yOK (f0_tour a b st) (f1_tour a b st) := by
  unfold f0_tour f1_tour
  rcases z_row b with ⟨N, hN, rfl, h0, h1⟩ | ⟨h0, h1⟩
  · simp only [h0, h1, Option.bind_some, if_neg z_01, yP8]
    exact z_tour a 40 40 0 N 0 (yS8 st 0) hI hN (by omega) (by omega) (by omega)
  · simp only [h0, h1, Option.bind_some, ↓reduceIte]
    exact ⟨_, _, rfl, rfl, hI⟩
