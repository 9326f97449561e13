/-! The short public methods: class and reference answer alike, and leave the same state. -/
def yOK (x y : Option (Int32 × St)) : Prop := ∃ (r : Int32) (t : St), x = some (r, t) ∧ y = some (r, t) ∧ Inv t
theorem z_lt0 {b : Int32} (h : ¬ b < 1) : ¬ b < 0 := by
  rw [Int32.lt_iff_toInt_lt] at h ⊢
  have e1 : (1 : Int32).toInt = 1 := rfl
  have e0 : (0 : Int32).toInt = 0 := rfl
  omega
theorem z_nn {n : Nat} (h : n < 2 ^ 31) : nI n = 0 ↔ n = 0 := nI_eq (b := 0) h (by decide)
theorem z_u {f : Nat → Int32} {j : Nat} {x : Int32} (h : f j = x) : upd f j x = f := by
  funext k
  unfold upd
  by_cases q : k = j
  · rw [if_pos q, q, h]
  · rw [if_neg q]
theorem pu_lay (a b : Int32) {st : St} (hI : Inv st) : yOK (f0_lay a b st) (f1_lay a b st) := by
  rcases z_bad a with ⟨j, hj, rfl⟩ | ⟨h0, h1⟩
  · unfold f0_lay f1_lay f1_in f0_isThere
    simp only [Option.bind_some, z_it0 hj, z_it1 hj, if_neg z_01]
    by_cases hb : b < 1
    · simp only [if_pos hb, Option.bind_some, ↓reduceIte]; exact ⟨-2, st, rfl, rfl, hI⟩
    · by_cases hc : b ≤ 12
      · have hc' : ¬ (12 : Int32) < b := Int32.not_lt.mpr hc
        simp only [if_neg hb, if_pos hc, if_neg hc', Option.bind_some, if_neg z_01, z_r8 hj]
        obtain ⟨r, c, w, e0, e1, e2, h1, h2, h3⟩ := hI j
        obtain ⟨n, hn, rfl⟩ := nI_of2 (M := 12) (n := 12) rfl (z_lt0 hb) hc
        by_cases h : yG0 st j ≤ 0
        · have hr : r = 0 := by
            rcases Nat.eq_zero_or_pos r with q | q
            · exact q
            · rw [e0] at h; exact absurd h (nI_nle q (by omega))
          subst hr
          simp only [if_pos h, Option.bind_some, ↓reduceIte, z_w0 hj, z_w1 hj]
          refine ⟨1, yS0 st (upd (yG0 st) j (nI n)), rfl, ?_, ?_⟩
          · show some (1, yS1 (yS0 st (upd (yG0 st) j (nI n))) (upd (yG1 st) j 0)) = _
            rw [z_u (show yG1 st j = 0 from by rw [e1, show c = 0 by omega]; rfl)]
            rfl
          · intro k
            obtain ⟨r', c', w', e0', e1', e2', h1', h2', h3'⟩ := hI k
            by_cases q : k = j
            · subst q
              exact ⟨n, c, w', if_pos rfl, e1, e2', by omega, hn, h3'⟩
            · exact ⟨r', c', w', (if_neg q).trans e0', e1', e2', h1', h2', h3'⟩
        · simp only [if_neg h, Option.bind_some, if_neg z_01]; exact ⟨0, st, rfl, rfl, hI⟩
      · have hc' : (12 : Int32) < b := Int32.not_le.mp hc
        simp only [if_neg hb, if_neg hc, if_pos hc', Option.bind_some, ↓reduceIte]; exact ⟨-2, st, rfl, rfl, hI⟩
  · unfold f0_lay f1_lay
    simp only [h0, h1, Option.bind_some, ↓reduceIte]; exact ⟨-2, st, rfl, rfl, hI⟩
theorem z_le {st : St} {j : Nat} (hI : Inv st) : yG0 st j ≤ 0 ↔ yG0 st j = 0 := by
  obtain ⟨r, c, w, e0, e1, e2, h1, h2, h3⟩ := hI j
  rw [e0]
  constructor
  · intro h
    rcases Nat.eq_zero_or_pos r with q | q
    · rw [q]; rfl
    · exact absurd h (nI_nle q (by omega))
  · intro h; rw [h]; decide
theorem pu_lift (a : Int32) {st : St} (hI : Inv st) : yOK (f0_lift a st) (f1_lift a st) := by
  rcases z_bad a with ⟨j, hj, rfl⟩ | ⟨h0, h1⟩
  · unfold f0_lift f1_lift f0_isThere
    simp only [Option.bind_some, z_it0 hj, z_it1 hj, if_neg z_01, z_r8 hj, z_le hI]
    by_cases h : yG0 st j = 0
    · simp only [if_pos h, Option.bind_some, ↓reduceIte]; exact ⟨-3, st, rfl, rfl, hI⟩
    · simp only [if_neg h, Option.bind_some, if_neg z_01, z_r8 hj, z_w0 hj, z_w1 hj]
      refine ⟨_, _, rfl, rfl, ?_⟩
      intro k
      obtain ⟨r', c', w', e0', e1', e2', h1', h2', h3'⟩ := hI k
      by_cases q : k = j
      · subst q
        exact ⟨0, 0, w', if_pos rfl, if_pos rfl, e2', by omega, by omega, h3'⟩
      · exact ⟨r', c', w', (if_neg q).trans e0', (if_neg q).trans e1', e2', h1', h2', h3'⟩
  · unfold f0_lift f1_lift
    simp only [h0, h1, Option.bind_some, ↓reduceIte]; exact ⟨-2, st, rfl, rfl, hI⟩
theorem pu_couple (a b : Int32) {st : St} (hI : Inv st) : yOK (f0_couple a b st) (f1_couple a b st) := by
  rcases z_bad a with ⟨j, hj, rfl⟩ | ⟨h0, h1⟩
  · unfold f0_couple f1_couple f1_in f0_holdAndCome
    simp only [Option.bind_some, z_it0 hj, z_it1 hj, if_neg z_01]
    by_cases hb : b < 1
    · simp only [if_pos hb, Option.bind_some, ↓reduceIte]; exact ⟨-2, st, rfl, rfl, hI⟩
    · by_cases hc : b ≤ 999
      · have hc' : ¬ (999 : Int32) < b := Int32.not_lt.mpr hc
        simp only [if_neg hb, if_pos hc, if_neg hc', Option.bind_some, if_neg z_01]
        obtain ⟨n, hn, rfl⟩ := nI_of2 (M := 999) (n := 999) rfl (z_lt0 hb) hc
        by_cases h : yG0 st j = 0
        · simp only [z_h0n hj h, z_h1n hj h, Option.bind_some, ↓reduceIte]
          exact ⟨-3, _, rfl, rfl, hI⟩
        · have hI1 : Inv (zH1 st) := hI
          simp only [z_h0y hI hj h, z_h1y hj h, Option.bind_some, if_neg z_01, z_f1 hj]
          by_cases q : yG1 (zH1 st) j = yG0 (zH1 st) j
          · simp only [if_pos q, if_neg z_01, z_c0F hj q, Option.bind_some, z_l0, z_l1]
            exact ⟨_, _, rfl, rfl, zL_I hI1⟩
          · simp only [if_neg q, ↓reduceIte, (z_c0 hI1 hj q).1, z_c1 hI1 hj q, Option.bind_some, z_l0, z_l1, z_r8 hj]
            have e : yG1 (zC j (nI n) (zH1 st)) j = yG1 (zH1 st) j + 1 := if_pos rfl
            rw [e]
            exact ⟨_, _, rfl, rfl, zL_I (zC_I hI1 q hn)⟩
      · have hc' : (999 : Int32) < b := Int32.not_le.mp hc
        simp only [if_neg hb, if_neg hc, if_pos hc', Option.bind_some, ↓reduceIte]; exact ⟨-2, st, rfl, rfl, hI⟩
  · unfold f0_couple f1_couple
    simp only [h0, h1, Option.bind_some, ↓reduceIte]; exact ⟨-2, st, rfl, rfl, hI⟩
theorem pu_uncouple (a : Int32) {st : St} (hI : Inv st) : yOK (f0_uncouple a st) (f1_uncouple a st) := by
  rcases z_bad a with ⟨j, hj, rfl⟩ | ⟨h0, h1⟩
  · unfold f0_uncouple f1_uncouple
    simp only [Option.bind_some, z_it0 hj, z_it1 hj, if_neg z_01]
    by_cases h : yG0 st j = 0
    · simp only [z_h0n hj h, z_h1n hj h, Option.bind_some, ↓reduceIte]
      exact ⟨-3, _, rfl, rfl, hI⟩
    · have hI1 : Inv (zH1 st) := hI
      simp only [z_h0y hI hj h, z_h1y hj h, Option.bind_some, if_neg z_01, z_r8 hj]
      by_cases q : yG1 (zH1 st) j = 0
      · simp only [if_pos q, z_g0E hj q, Option.bind_some, z_l0, z_l1]
        exact ⟨_, _, rfl, rfl, zL_I hI1⟩
      · simp only [if_neg q, z_g0 hI1 hj q, z_la hI1 hj q, Option.bind_some, z_l0, z_l1, z_w1 hj, z_r8 hj]
        exact ⟨_, _, rfl, rfl, zL_I (zG_I hI1 q).1⟩
  · unfold f0_uncouple f1_uncouple
    simp only [h0, h1, Option.bind_some, ↓reduceIte]; exact ⟨-2, st, rfl, rfl, hI⟩
theorem pu_wagon (a b : Int32) {st : St} (hI : Inv st) : yOK (f0_wagon a b st) (f1_wagon a b st) := by
  rcases z_bad a with ⟨j, hj, rfl⟩ | ⟨h0, h1⟩
  · unfold f0_wagon f1_wagon f1_in f0_place
    simp only [Option.bind_some, z_it0 hj, z_it1 hj, if_neg z_01, z_r8 hj]
    by_cases hb : b < 0
    · simp only [if_pos hb, Option.bind_some, ↓reduceIte]; exact ⟨0, st, rfl, rfl, hI⟩
    · obtain ⟨i, hi, rfl⟩ := nI_of hb
      obtain ⟨r, c, w, e0, e1, e2, h1, h2, h3⟩ := hI j
      simp only [if_neg hb, e1]
      by_cases hc : nI i < nI c
      · have hic : i < c := (nI_ltI hi (by omega)).mp hc
        have hc' : ¬ nI c - 1 < nI i := by
          obtain ⟨d, rfl⟩ : ∃ d, c = d + 1 := ⟨c - 1, by omega⟩
          rw [nI_pred]; exact nI_nlt (by omega) (by omega)
        simp only [if_pos hc, if_neg hc', Option.bind_some, if_neg z_01, z_pl, z_pl2]
        rw [z_r96 (by omega)]
        exact ⟨_, _, rfl, rfl, hI⟩
      · have hic : c ≤ i := by
          rcases Nat.lt_or_ge i c with q | q
          · exact absurd ((nI_ltI hi (by omega)).mpr q) hc
          · exact q
        have hc' : nI c - 1 < nI i := by
          rcases Nat.eq_zero_or_pos c with q | q
          · subst q
            rw [Int32.lt_iff_toInt_lt, nI_toInt hi]
            have : (nI 0 - 1).toInt = -1 := rfl
            omega
          · obtain ⟨d, rfl⟩ : ∃ d, c = d + 1 := ⟨c - 1, by omega⟩
            rw [nI_pred]; exact nI_lt (by omega) hi
        simp only [if_neg hc, if_pos hc', Option.bind_some, ↓reduceIte]
        exact ⟨0, st, rfl, rfl, hI⟩
  · unfold f0_wagon f1_wagon
    simp only [h0, h1, Option.bind_some, ↓reduceIte]; exact ⟨-2, st, rfl, rfl, hI⟩
def z_sw (v r : Int32) (st : St) : Option (Int32 × St) := if v = 0 then some ((yG3 st), st) else if v = 1 then some ((yG4 st), st) else if v = 2 then some ((yG5 st), st) else if v = 3 then some ((yG6 st), st) else if v = 4 then some ((yG7 st), st) else if v = 5 then some ((yG8 st), st) else if v = 6 then some (r, st) else some ((-2), st)
theorem z_told {st : St} (v : Int32) : ∀ (n i : Nat) (x : Int32), i ≤ 8 → 8 < i + n → ∃ r, f0_tracksThere_L4 n x (nI i) st = some (r, st) ∧ f1_told_L4 n v x (nI i) st = z_sw v r st := by
  intro n
  induction n with
  | zero => intro i x h1 h2; omega
  | succ n ih =>
    intro i x h1 h2
    rw [f0_tracksThere_L4, f1_told_L4]
    unfold f0_isThere
    by_cases q : i = 8
    · subst q
      rw [if_pos (show (8 : Int32) ≤ nI 8 by decide), if_pos (show (8 : Int32) ≤ nI 8 by decide)]
      exact ⟨x, rfl, rfl⟩
    · have hq : ¬ (8 : Int32) ≤ nI i := nI_ge (b := 8) (by omega) (by decide)
      rw [if_neg hq, if_neg hq, z_r8 (by omega)]
      simp only [Option.bind_some, nI_1]
      by_cases h : yG0 st i ≤ 0
      · simp only [if_pos h, Option.bind_some, ↓reduceIte, Int32.add_zero]
        exact ih (i + 1) x (by omega) (by omega)
      · simp only [if_neg h, Option.bind_some, if_neg z_01]
        exact ih (i + 1) (x + 1) (by omega) (by omega)
theorem pu_told (a : Int32) {st : St} (hI : Inv st) : yOK (f0_told a st) (f1_told a st) := by
  unfold f0_told f1_told f0_tracksThere
  obtain ⟨r, e0, e1⟩ := z_told (st := st) a 40 0 0 (by omega) (by omega)
  rw [show (0 : Int32) = nI 0 from rfl] at *
  rw [e0, e1]
  simp only [Option.bind_some]
  show yOK (z_sw a r st) (z_sw a r st)
  have : ∃ r2, z_sw a r st = some (r2, st) := by
    unfold z_sw
    repeat (first | exact ⟨_, rfl⟩ | split)
  obtain ⟨r2, e2⟩ := this
  exact ⟨r2, st, e2, e2, hI⟩
