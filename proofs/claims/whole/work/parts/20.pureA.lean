/-! The pure programs of class and reference under the invariant: what the small methods answer. -/
def Inv (st : St) : Prop := ∀ k : Nat, ∃ r c w : Nat, yG0 st k = nI r ∧ yG1 st k = nI c ∧ yG2 st k = nI w ∧ c ≤ r ∧ r ≤ 12 ∧ w ≤ 999
theorem z_nI (n : Nat) : (OfNat.ofNat n : Int32) = nI n := rfl
theorem z_rd {f : Nat → Int32} {n j : Nat} (h : j < n) (hn : n < 2 ^ 31) : yrd f n (nI j) = some (f j) := by
  have h1 := nI_in h hn
  unfold yrd
  rw [if_neg h1, nI_clamp (by omega)]
theorem z_wr {f : Nat → Int32} {n j : Nat} {x : Int32} (h : j < n) (hn : n < 2 ^ 31) : ywr f n (nI j) x = some (upd f j x) := by
  have h1 := nI_in h hn
  unfold ywr
  rw [if_neg h1, nI_clamp (by omega)]
theorem z_r8 {f : Nat → Int32} {j : Nat} (h : j < 8) : yrd f 8 (nI j) = some (f j) := z_rd h (by decide)
theorem z_r96 {f : Nat → Int32} {j : Nat} (h : j < 96) : yrd f 96 (nI j) = some (f j) := z_rd h (by decide)
theorem z_w0 {st : St} {j : Nat} {x : Int32} (h : j < 8) : yW0 st (nI j) x = some (yS0 st (upd (yG0 st) j x)) := by unfold yW0; rw [z_wr h (by decide)]; rfl
theorem z_w1 {st : St} {j : Nat} {x : Int32} (h : j < 8) : yW1 st (nI j) x = some (yS1 st (upd (yG1 st) j x)) := by unfold yW1; rw [z_wr h (by decide)]; rfl
theorem z_w2 {st : St} {j : Nat} {x : Int32} (h : j < 96) : yW2 st (nI j) x = some (yS2 st (upd (yG2 st) j x)) := by unfold yW2; rw [z_wr h (by decide)]; rfl
theorem z_it0 {j : Nat} (h : j < 8) : f0_isTrack (nI j) = some 1 := by
  unfold f0_isTrack
  rw [if_neg (nI_pos (by omega)), if_neg (show ¬ (8 : Int32) ≤ nI j from nI_ge (b := 8) h (by decide))]
theorem z_it1 {j : Nat} (h : j < 8) : f1_isTrack (nI j) = some 1 := by
  unfold f1_isTrack f1_in
  rw [if_neg (nI_pos (by omega)), if_neg (show ¬ (7 : Int32) < nI j from nI_nlt (b := j) (a := 7) (by omega) (by decide))]
  rfl
theorem z_bad (a : Int32) : (∃ j, j < 8 ∧ a = nI j) ∨ (f0_isTrack a = some 0 ∧ f1_isTrack a = some 0) := by
  unfold f0_isTrack f1_isTrack f1_in
  by_cases h : a < 0
  · right; rw [if_pos h, if_pos h]; exact ⟨rfl, rfl⟩
  · by_cases h2 : 8 ≤ a
    · right
      have h3 : (7 : Int32) < a := by
        rw [Int32.lt_iff_toInt_lt]; rw [Int32.le_iff_toInt_le] at h2
        have e7 : (7 : Int32).toInt = 7 := rfl
        have e8 : (8 : Int32).toInt = 8 := rfl
        omega
      rw [if_neg h, if_pos h2, if_neg h, if_pos h3]; exact ⟨rfl, rfl⟩
    · left
      obtain ⟨j, hj, rfl⟩ := nI_of h
      refine ⟨j, ?_, rfl⟩
      rcases Nat.lt_or_ge j 8 with q | q
      · exact q
      · exact absurd (nI_le q hj) h2
-- holds
def zH0 (st : St) : St := yS3 st (yG3 st + 1)
def zH1 (st : St) : St := (st.1, st.2.1, st.2.2.1, st.2.2.2.1 + 1, st.2.2.2.2.1 + 1, st.2.2.2.2.2.1, st.2.2.2.2.2.2.1 + 1, (if st.2.2.2.2.2.2.2.1 < st.2.2.2.2.2.2.1 + 1 then st.2.2.2.2.2.2.1 + 1 else st.2.2.2.2.2.2.2.1), st.2.2.2.2.2.2.2.2)
theorem z_h0y {st : St} {j : Nat} (hI : Inv st) (hj : j < 8) (h : yG0 st j ≠ 0) : f0_hold (nI j) st = some (1, zH1 st) := by
  obtain ⟨r, c, w, e0, e1, e2, h1, h2, h3⟩ := hI j
  have hle : ¬ yG0 st j ≤ 0 := by
    rw [e0] at h ⊢
    exact nI_nle (Nat.pos_of_ne_zero (fun q => h (by rw [q]; rfl))) (by omega)
  unfold f0_hold f0_isThere
  simp only [yP3, Option.bind_some, z_r8 hj]
  rw [if_neg (show ¬ yG0 (yS3 st (yG3 st + 1)) j ≤ 0 from hle)]
  rfl
theorem z_h0n {st : St} {j : Nat} (hj : j < 8) (h : yG0 st j = 0) : f0_hold (nI j) st = some (0, zH0 st) := by
  unfold f0_hold f0_isThere
  simp only [yP3, Option.bind_some, z_r8 hj]
  rw [if_pos (show yG0 (yS3 st (yG3 st + 1)) j ≤ 0 from by show yG0 st j ≤ 0; rw [h]; decide)]
  rfl
theorem z_h1y {st : St} {j : Nat} (hj : j < 8) (h : yG0 st j ≠ 0) : f1_holds (nI j) st = some (1, zH1 st) := by
  unfold f1_holds
  simp only [yP3, yP4, yP6, yP7, Option.bind_some, z_r8 hj]
  rw [if_neg (show ¬ yG0 (yS3 st (yG3 st + 1)) j = 0 from h)]
  by_cases q : st.2.2.2.2.2.2.2.1 < st.2.2.2.2.2.2.1 + 1
  · refine (if_neg (fun q2 => ?_)).trans ?_
    · exact absurd (show st.2.2.2.2.2.2.1 + 1 ≤ st.2.2.2.2.2.2.2.1 from q2) (Int32.not_le.mpr q)
    · unfold zH1; rw [if_pos q]; rfl
  · refine (if_pos ?_).trans ?_
    · exact (show st.2.2.2.2.2.2.1 + 1 ≤ st.2.2.2.2.2.2.2.1 from Int32.not_lt.mp q)
    · unfold zH1; rw [if_neg q]; rfl
theorem z_h1n {st : St} {j : Nat} (hj : j < 8) (h : yG0 st j = 0) : f1_holds (nI j) st = some (0, zH0 st) := by
  unfold f1_holds
  simp only [yP3, Option.bind_some, z_r8 hj]
  rw [if_pos (show yG0 (yS3 st (yG3 st + 1)) j = 0 from h)]
  rfl
-- what is let go
def zL (n a : Int32) (st : St) : St := if 0 ≤ a then yS6 st (yG6 st - n) else yS5 (yS6 st (yG6 st - n)) (yG5 st + n)
theorem z_l0 (n a : Int32) (st : St) : f0_letGo n a st = some (a, zL n a st) := by
  unfold f0_letGo zL
  simp only [yP6, yP5, Option.bind_some]
  by_cases h : 0 ≤ a
  · rw [if_pos h, if_pos h]
  · rw [if_neg h, if_neg h]; rfl
theorem z_l1 (n a : Int32) (st : St) : f1_goes n a st = some (a, zL n a st) := z_l0 n a st
theorem zL_p {n a : Int32} {st : St} (h : 0 ≤ a) : zL n a st = yS6 st (yG6 st - n) := if_pos h
theorem zL_n {n a : Int32} {st : St} (h : ¬ 0 ≤ a) : zL n a st = yS5 (yS6 st (yG6 st - n)) (yG5 st + n) := if_neg h
theorem zL_G {n a : Int32} {st : St} : yG0 (zL n a st) = yG0 st ∧ yG1 (zL n a st) = yG1 st ∧ yG2 (zL n a st) = yG2 st ∧ yG8 (zL n a st) = yG8 st := by
  unfold zL
  by_cases h : 0 ≤ a
  · rw [if_pos h]; exact ⟨rfl, rfl, rfl, rfl⟩
  · rw [if_neg h]; exact ⟨rfl, rfl, rfl, rfl⟩
theorem zL_I {n a : Int32} {st : St} (h : Inv st) : Inv (zL n a st) := by
  unfold zL
  by_cases q : 0 ≤ a
  · rw [if_pos q]; exact h
  · rw [if_neg q]; exact h
-- coming and going
def zC (j : Nat) (w : Int32) (st : St) : St := yS1 (yS2 st (upd (yG2 st) (j * 12 + (yG1 st j).toNatClampNeg) w)) (upd (yG1 st) j (yG1 st j + 1))
def zG (j : Nat) (st : St) : St := yS1 st (upd (yG1 st) j (yG1 st j - 1))
def zW (j : Nat) (st : St) : Int32 := yG2 st (j * 12 + ((yG1 st j).toNatClampNeg - 1))
theorem z_pl {j i : Nat} : nI j * 12 + nI i = nI (j * 12 + i) := by rw [show (12 : Int32) = nI 12 from rfl, pk_mul, nI_add]
theorem z_pl2 {j i : Nat} : 12 * nI j + nI i = nI (j * 12 + i) := by rw [Int32.mul_comm, z_pl]
theorem z_c0 {st : St} {j : Nat} {w : Int32} (hI : Inv st) (hj : j < 8) (h : yG1 st j ≠ yG0 st j) : f0_come (nI j) w st = some (yG1 st j + 1, zC j w st) ∧ 0 ≤ yG1 st j + 1 ∧ yG1 st j + 1 ≠ -4 := by
  obtain ⟨r, c, w', e0, e1, e2, h1, h2, h3⟩ := hI j
  have hlt : c < r := by
    rcases Nat.lt_or_ge c r with q | q
    · exact q
    · exact absurd (by rw [e0, e1, show c = r by omega]) h
  have e1c : (yG1 st j).toNatClampNeg = c := by rw [e1, nI_clamp (by omega)]
  refine ⟨?_, ?_, ?_⟩
  · unfold f0_come f0_place
    simp only [Option.bind_some, z_r8 hj]
    rw [if_pos (by rw [e0, e1]; exact nI_lt hlt (by omega))]
    unfold zC
    rw [e1c]
    simp only [e1, z_pl]
    rw [z_w2 (by omega), Option.bind_some, z_w1 hj]
    simp only [Option.bind_some]
    rfl
  · rw [e1, nI_1]; exact nI_pos' (by omega)
  · rw [e1, nI_1]; intro q
    have := nI_pos (n := c + 1) (by omega)
    rw [q] at this; exact this (by decide)
theorem z_c0F {st : St} {j : Nat} {w : Int32} (hj : j < 8) (h : yG1 st j = yG0 st j) : f0_come (nI j) w st = some (-4, st) := by
  unfold f0_come
  simp only [Option.bind_some, z_r8 hj]
  rw [if_neg (by rw [h]; exact Int32.lt_irrefl)]
theorem z_c1 {st : St} {j : Nat} {w : Int32} (hI : Inv st) (hj : j < 8) (h : yG1 st j ≠ yG0 st j) : f1_come (nI j) w st = some (0, zC j w st) := by
  obtain ⟨r, c, w', e0, e1, e2, h1, h2, h3⟩ := hI j
  have hlt : c < r := by
    rcases Nat.lt_or_ge c r with q | q
    · exact q
    · exact absurd (by rw [e0, e1, show c = r by omega]) h
  have e1c : (yG1 st j).toNatClampNeg = c := by rw [e1, nI_clamp (by omega)]
  unfold f1_come
  simp only [Option.bind_some, z_r8 hj]
  unfold zC
  rw [e1c]
  simp only [e1, z_pl2]
  rw [z_w2 (by omega), Option.bind_some, z_w1 hj]
  simp only [Option.bind_some]
  show some (0, yS1 (yS2 st (upd (yG2 st) (j * 12 + c) w)) (upd (yG1 st) j (yG1 st j + 1))) = _
  rw [e1]
theorem z_g0 {st : St} {j : Nat} (hI : Inv st) (hj : j < 8) (h : yG1 st j ≠ 0) : f0_go (nI j) st = some (zW j st, zG j st) := by
  obtain ⟨r, c, w', e0, e1, e2, h1, h2, h3⟩ := hI j
  have e1c : (yG1 st j).toNatClampNeg = c := by rw [e1, nI_clamp (by omega)]
  obtain ⟨d, rfl⟩ : ∃ d, c = d + 1 := ⟨c - 1, by
    rcases Nat.eq_zero_or_pos c with q | q
    · subst q; exact absurd e1 h
    · omega⟩
  unfold f0_go f0_place
  simp only [Option.bind_some, z_r8 hj]
  rw [if_neg h]
  rw [z_w1 hj, Option.bind_some]
  unfold zG zW
  rw [e1c]
  simp only [e1, nI_pred, z_pl]
  rw [z_r96 (by omega)]
  simp only [Option.bind_some]
  rfl
theorem z_g0E {st : St} {j : Nat} (hj : j < 8) (h : yG1 st j = 0) : f0_go (nI j) st = some (-5, st) := by
  unfold f0_go
  simp only [Option.bind_some, z_r8 hj]
  rw [if_pos h]
theorem z_la {st : St} {j : Nat} (hI : Inv st) (hj : j < 8) (h : yG1 st j ≠ 0) : f1_last (nI j) st = some (zW j st, st) := by
  obtain ⟨r, c, w', e0, e1, e2, h1, h2, h3⟩ := hI j
  have e1c : (yG1 st j).toNatClampNeg = c := by rw [e1, nI_clamp (by omega)]
  obtain ⟨d, rfl⟩ : ∃ d, c = d + 1 := ⟨c - 1, by
    rcases Nat.eq_zero_or_pos c with q | q
    · subst q; exact absurd e1 h
    · omega⟩
  unfold f1_last
  simp only [Option.bind_some, z_r8 hj]
  unfold zW
  rw [e1c]
  simp only [e1, z_pl2]
  rw [show j * 12 + (d + 1) = (j * 12 + d) + 1 by omega, nI_pred, z_r96 (by omega)]
  rfl
theorem z_f1 {st : St} {j : Nat} (hj : j < 8) : f1_isFull (nI j) st = some (if yG1 st j = yG0 st j then 1 else 0, st) := by
  unfold f1_isFull
  simp only [Option.bind_some, z_r8 hj]
  by_cases h : yG1 st j = yG0 st j
  · rw [if_pos h, if_pos h]
  · rw [if_neg h, if_neg h]
theorem zW_I {st : St} {j : Nat} (hI : Inv st) : ∃ w, w ≤ 999 ∧ zW j st = nI w := by
  obtain ⟨r, c, w, e0, e1, e2, h1, h2, h3⟩ := hI (j * 12 + ((yG1 st j).toNatClampNeg - 1))
  exact ⟨w, h3, e2⟩
theorem zC_I {st : St} {j w : Nat} (hI : Inv st) (h : yG1 st j ≠ yG0 st j) (hw : w ≤ 999) : Inv (zC j (nI w) st) := by
  intro k
  obtain ⟨r, c, w', e0, e1, e2, h1, h2, h3⟩ := hI k
  have a0 : yG0 (zC j (nI w) st) k = yG0 st k := rfl
  have a1 : yG1 (zC j (nI w) st) k = if k = j then yG1 st j + 1 else yG1 st k := rfl
  have a2 : yG2 (zC j (nI w) st) k = if k = j * 12 + (yG1 st j).toNatClampNeg then nI w else yG2 st k := rfl
  have hV : ∃ x, x ≤ 999 ∧ yG2 (zC j (nI w) st) k = nI x := by
    rw [a2]
    by_cases q : k = j * 12 + (yG1 st j).toNatClampNeg
    · rw [if_pos q]; exact ⟨w, hw, rfl⟩
    · rw [if_neg q]; exact ⟨w', h3, e2⟩
  obtain ⟨x, hx, ex⟩ := hV
  by_cases q : k = j
  · subst q
    refine ⟨r, c + 1, x, by rw [a0, e0], by rw [a1, if_pos rfl, e1, nI_1], ex, ?_, h2, hx⟩
    rcases Nat.lt_or_ge c r with q | q
    · exact q
    · exact absurd (by rw [e0, e1, show c = r by omega]) h
  · exact ⟨r, c, x, by rw [a0, e0], by rw [a1, if_neg q, e1], ex, h1, h2, hx⟩
theorem zG_I {st : St} {j : Nat} (hI : Inv st) (h : yG1 st j ≠ 0) : Inv (zG j st) ∧ yG1 (zG j st) j ≠ yG0 (zG j st) j := by
  refine ⟨?_, ?_⟩
  · intro k
    obtain ⟨r, c, w', e0, e1, e2, h1, h2, h3⟩ := hI k
    have a1 : yG1 (zG j st) k = if k = j then yG1 st j - 1 else yG1 st k := rfl
    by_cases q : k = j
    · subst q
      obtain ⟨d, rfl⟩ : ∃ d, c = d + 1 := ⟨c - 1, by
        rcases Nat.eq_zero_or_pos c with q | q
        · subst q; exact absurd e1 h
        · omega⟩
      exact ⟨r, d, w', e0, by rw [a1, if_pos rfl, e1, nI_pred], e2, by omega, h2, h3⟩
    · exact ⟨r, c, w', e0, by rw [a1, if_neg q, e1], e2, h1, h2, h3⟩
  · obtain ⟨r, c, w', e0, e1, e2, h1, h2, h3⟩ := hI j
    have a1 : yG1 (zG j st) j = yG1 st j - 1 := if_pos rfl
    obtain ⟨d, rfl⟩ : ∃ d, c = d + 1 := ⟨c - 1, by
      rcases Nat.eq_zero_or_pos c with q | q
      · subst q; exact absurd e1 h
      · omega⟩
    rw [a1, show yG0 (zG j st) j = yG0 st j from rfl, e0, e1, nI_pred]
    intro q
    have := (nI_eq (by omega) (by omega)).mp q
    omega
theorem z_01 : ¬ ((1 : Int32) = 0) := by decide
