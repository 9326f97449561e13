/-! turn, swap, shunt, sweep: the loops side by side. -/
def zX (p q : Nat) (st : St) : St := yS2 (yS2 st (upd (yG2 st) p (yG2 st q))) (upd (upd (yG2 st) p (yG2 st q)) q (yG2 st p))
theorem z_ex {p q : Nat} {st : St} (hp : p < 96) (hq : q < 96) : f0_exchangePlaces (nI p) (nI q) st = some (0, zX p q st) := by
  unfold f0_exchangePlaces
  simp only [z_r96 hp, z_r96 hq, z_w2 hp, z_w2 hq, Option.bind_some]
  rfl
theorem z_w2x {p q : Nat} {st : St} (hq : q < 96) : yW2 (yS2 st (upd (yG2 st) p (yG2 st q))) (nI q) (yG2 st p) = some (zX p q st) := z_w2 hq
theorem zX_I {p q : Nat} {st : St} (hI : Inv st) : Inv (zX p q st) := by
  intro k
  obtain ⟨r, c, w, e0, e1, e2, h1, h2, h3⟩ := hI k
  have a2 : yG2 (zX p q st) k = if k = q then yG2 st p else if k = p then yG2 st q else yG2 st k := rfl
  obtain ⟨rp, cp, wp, -, -, ep, -, -, hp⟩ := hI p
  obtain ⟨rq, cq, wq, -, -, eq, -, -, hq⟩ := hI q
  by_cases c1 : k = q
  · exact ⟨r, c, wp, e0, e1, by rw [a2, if_pos c1, ep], h1, h2, hp⟩
  · by_cases c2 : k = p
    · exact ⟨r, c, wq, e0, e1, by rw [a2, if_neg c1, if_pos c2, eq], h1, h2, hq⟩
    · exact ⟨r, c, w, e0, e1, by rw [a2, if_neg c1, if_neg c2, e2], h1, h2, h3⟩
theorem z_turn {j c : Nat} (hj : j < 8) (hc : c ≤ 12) : ∀ (n i : Nat) (st : St), Inv st → yG0 st j ≠ 0 → i ≤ c / 2 → c / 2 < i + n → yOK (f0_turn_L30 n (nI j) (nI c) (nI i) st) (f1_turn_L30 n (nI j) (nI c) (nI i) st) := by
  intro n
  induction n with
  | zero => intro i st _ _ _ h; omega
  | succ n ih =>
    intro i st hI hT hi hn
    rw [f0_turn_L30, f1_turn_L30]
    have e2 : nI c / 2 = nI (c / 2) := pk_div (d := 2) (by omega) (by decide) (by decide)
    rw [e2]
    by_cases q : i = c / 2
    · have h : nI (c / 2) ≤ nI i := by rw [q]; exact Int32.le_refl _
      simp only [if_pos h, z_l0, z_l1, Option.bind_some]
      exact ⟨_, _, rfl, rfl, zL_I hI⟩
    · have h : ¬ nI (c / 2) ≤ nI i := nI_ge (by omega) (by omega)
      have e3 : nI c - 1 - nI i = nI (c - 1 - i) := by
        rw [show (1 : Int32) = nI 1 from rfl, pk_sub (by omega), pk_sub (by omega)]
      have e4 : nI (j * 12 + c) - 1 - nI i = nI (j * 12 + (c - 1 - i)) := by
        rw [show (1 : Int32) = nI 1 from rfl, pk_sub (by omega), pk_sub (by omega), show j * 12 + c - 1 - i = j * 12 + (c - 1 - i) by omega]
      unfold f0_place
      have b1 : j * 12 + i < 96 := by omega
      have b2 : j * 12 + (c - 1 - i) < 96 := by omega
      have hI1 : Inv (zH1 st) := hI
      simp only [if_neg h, z_h0y hI hj hT, z_h1y hj hT, Option.bind_some, if_neg z_01, e3, e4, z_pl, z_pl2, nI_1, z_ex b1 b2, z_r96 b1, z_r96 b2, z_w2 b1, z_w2x b2, z_l0, z_l1]
      exact ih (i + 1) (zL 1 0 (zX (j * 12 + i) (j * 12 + (c - 1 - i)) (zH1 st))) (zL_I (zX_I hI1)) (by rw [zL_G.1]; exact hT) (by omega) (by omega)
theorem pu_turn (a : Int32) {st : St} (hI : Inv st) : yOK (f0_turn a st) (f1_turn a st) := by
  rcases z_bad a with ⟨j, hj, rfl⟩ | ⟨h0, h1⟩
  · unfold f0_turn f1_turn
    simp only [Option.bind_some, z_it0 hj, z_it1 hj, if_neg z_01]
    by_cases h : yG0 st j = 0
    · simp only [z_h0n hj h, z_h1n hj h, Option.bind_some, ↓reduceIte]
      exact ⟨-3, _, rfl, rfl, hI⟩
    · have hI1 : Inv (zH1 st) := hI
      obtain ⟨r, c, w, e0, e1, e2, h1, h2, h3⟩ := hI1 j
      simp only [z_h0y hI hj h, z_h1y hj h, Option.bind_some, if_neg z_01, z_r8 hj, e1]
      exact z_turn hj (by omega) 40 0 (zH1 st) hI1 h (by omega) (by omega)
  · unfold f0_turn f1_turn
    simp only [h0, h1, Option.bind_some, ↓reduceIte]; exact ⟨-2, st, rfl, rfl, hI⟩
theorem z_swap {a b : Nat} (ha : a < 8) (hb : b < 8) {x3 x4 : Int32} : ∀ (n i : Nat) (st : St), Inv st → yG1 st a = x3 → yG1 st b = x4 → ¬ yG0 st b < x3 → x4 ≤ yG0 st a → i ≤ 12 → 12 < i + n → ∃ r t, f0_exchangeRows_L42 n (nI a) (nI b) x3 x4 (nI i) st = some (r, t) ∧ f1_swap_L92 n (nI a) (nI b) (nI i) st = some (r, zL 3 r t) ∧ Inv t := by
  intro n
  induction n with
  | zero => intro i st _ _ _ _ _ _ h; omega
  | succ n ih =>
    intro i st hI ea eb hab hba hi hn
    rw [f0_exchangeRows_L42, f1_swap_L92]
    by_cases q : i = 12
    · subst q
      have h : (12 : Int32) ≤ nI 12 := by decide
      simp only [if_pos h, z_w1 ha, z_w1 hb, z_r8 ha, z_r8 hb, ea, eb, Option.bind_some, z_l1]
      have e : yG1 (yS1 (yS1 st (upd (yG1 st) a x4)) (upd (yG1 (yS1 st (upd (yG1 st) a x4))) b x3)) a = x4 := by
        show (if a = b then x3 else if a = a then x4 else yG1 st a) = x4
        by_cases q : a = b
        · rw [if_pos q, ← ea, ← eb, q]
        · rw [if_neg q, if_pos rfl]
      rw [e]
      refine ⟨_, _, rfl, rfl, ?_⟩
      intro k
      obtain ⟨r, c, w, e0, e1, e2, h1, h2, h3⟩ := hI k
      obtain ⟨ra, ca, wa, a0, a1, a2, ha1, ha2, ha3⟩ := hI a
      obtain ⟨rb, cb, wb, b0, b1, b2, hb1, hb2, hb3⟩ := hI b
      have d1 : yG1 (yS1 (yS1 st (upd (yG1 st) a x4)) (upd (yG1 (yS1 st (upd (yG1 st) a x4))) b x3)) k = if k = b then x3 else if k = a then x4 else yG1 st k := rfl
      rw [← ea, a1, b0] at hab
      rw [← eb, b1, a0] at hba
      have hab' : ca ≤ rb := by
        rcases Nat.lt_or_ge rb ca with q | q
        · exact absurd (nI_lt q (by omega)) hab
        · exact q
      have hba' : cb ≤ ra := (nI_leI (by omega) (by omega)).mp hba
      by_cases c1 : k = b
      · subst c1
        exact ⟨r, ca, w, e0, by rw [d1, if_pos rfl, ← ea, a1], e2, by
          have := (nI_eq (by omega) (by omega)).mp (e0.symm.trans b0); omega, h2, h3⟩
      · by_cases c2 : k = a
        · subst c2
          exact ⟨r, cb, w, e0, by rw [d1, if_neg c1, if_pos rfl, ← eb, b1], e2, by
            have := (nI_eq (by omega) (by omega)).mp (e0.symm.trans a0); omega, h2, h3⟩
        · exact ⟨r, c, w, e0, by rw [d1, if_neg c1, if_neg c2, e1], e2, h1, h2, h3⟩
    · have h : ¬ (12 : Int32) ≤ nI i := nI_ge (b := 12) (by omega) (by decide)
      have b1 : a * 12 + i < 96 := by omega
      have b2 : b * 12 + i < 96 := by omega
      unfold f0_place
      simp only [if_neg h, Option.bind_some, z_pl, z_pl2, z_ex b1 b2, z_r96 b1, z_r96 b2, z_w2 b1, z_w2x b2, nI_1]
      exact ih (i + 1) _ (zX_I hI) ea eb hab hba (by omega) (by omega)
theorem pu_swap (a b : Int32) {st : St} (hI : Inv st) : yOK (f0_swap a b st) (f1_swap a b st) := by
  rcases z_bad a with ⟨j, hj, rfl⟩ | ⟨h0, h1⟩
  · rcases z_bad b with ⟨i, hi, rfl⟩ | ⟨h0, h1⟩
    · unfold f0_swap f1_swap
      simp only [Option.bind_some, z_it0 hj, z_it1 hj, z_it0 hi, z_it1 hi, if_neg z_01]
      by_cases h : yG0 st j = 0
      · simp only [z_h0n hj h, z_h1n hj h, Option.bind_some, ↓reduceIte]
        exact ⟨-3, _, rfl, rfl, hI⟩
      · have hI1 : Inv (zH1 st) := hI
        simp only [z_h0y hI hj h, z_h1y hj h, Option.bind_some, if_neg z_01]
        by_cases g : yG0 (zH1 st) i = 0
        · simp only [z_h0n hi g, z_h1n hi g, Option.bind_some, ↓reduceIte, z_l0, z_l1]
          exact ⟨_, _, rfl, rfl, zL_I (st := zH0 (zH1 st)) hI⟩
        · have hI2 : Inv (zH1 (zH1 st)) := hI
          have hI3 : Inv (zH1 (zH1 (zH1 st))) := hI
          have h2 : yG0 (zH1 (zH1 st)) j ≠ 0 := h
          unfold f0_exchangeRows
          simp only [z_h0y hI1 hi g, z_h1y hi g, z_h0y hI2 hj h2, z_h1y hj h2, Option.bind_some, if_neg z_01, z_r8 hj, z_r8 hi]
          by_cases c1 : yG0 (zH1 (zH1 (zH1 st))) i < yG1 (zH1 (zH1 (zH1 st))) j
          · simp only [if_pos c1, Option.bind_some, z_l0, z_l1]
            exact ⟨_, _, rfl, rfl, zL_I hI3⟩
          · by_cases c2 : yG1 (zH1 (zH1 (zH1 st))) i ≤ yG0 (zH1 (zH1 (zH1 st))) j
            · simp only [if_neg c1, if_pos c2]
              obtain ⟨r, t, e0, e1, hIt⟩ := z_swap hj hi 40 0 (zH1 (zH1 (zH1 st))) hI3 rfl rfl c1 c2 (by omega) (by omega)
              rw [show (0 : Int32) = nI 0 from rfl, e0, e1]
              simp only [Option.bind_some, z_l0]
              exact ⟨_, _, rfl, rfl, zL_I hIt⟩
            · simp only [if_neg c1, if_neg c2, Option.bind_some, z_l0, z_l1]
              exact ⟨_, _, rfl, rfl, zL_I hI3⟩
    · unfold f0_swap f1_swap
      simp only [z_it0 hj, z_it1 hj, if_neg z_01, h0, h1, Option.bind_some, ↓reduceIte]; exact ⟨-2, st, rfl, rfl, hI⟩
  · unfold f0_swap f1_swap
    simp only [h0, h1, Option.bind_some, ↓reduceIte]; exact ⟨-2, st, rfl, rfl, hI⟩
theorem z_w1g {st : St} {j : Nat} (h : j < 8) : yW1 st (nI j) (yG1 st j - 1) = some (zG j st) := z_w1 h
theorem z_ne5 {w : Nat} (h : w ≤ 999) : nI w ≠ -5 := by
  intro q
  have := nI_pos (n := w) (by omega)
  rw [q] at this; exact this (by decide)
theorem z_shunt {a b N : Nat} (ha : a < 8) (hb : b < 8) (hN : N ≤ 20) : ∀ (n n' i : Nat) (st : St), Inv st → i ≤ N → N < i + n → N + 1 < i + n' → ∃ r t, f0_moveWagons_L3 n (nI a) (nI b) (nI N) (nI i) st = some (r, t) ∧ f1_shunt_L65 n' (nI a) (nI b) (nI N) (nI N) (nI i) st = some (r, zL 2 r t) ∧ Inv t := by
  intro n
  induction n with
  | zero => intro n' i st _ _ h; omega
  | succ n ih =>
    intro n' i st hI hi hn hn'
    obtain ⟨m, rfl⟩ : ∃ m, n' = m + 2 := ⟨n' - 2, by omega⟩
    rw [f0_moveWagons_L3, f1_shunt_L65]
    by_cases q : i = N
    · subst q
      have h : nI i ≤ nI i := Int32.le_refl _
      simp only [if_pos h, z_l1, Option.bind_some]
      exact ⟨_, _, rfl, rfl, hI⟩
    · have h : ¬ nI N ≤ nI i := nI_ge (by omega) (by omega)
      have hp : ¬ nI N < 0 := nI_pos (by omega)
      have fin : ∀ (x : Int32) (t : St), x < 0 → f1_shunt_L65 (m + 1) (nI a) (nI b) (nI N) x (nI i + 1) t = some (x, zL 2 x t) := by
        intro x t hx
        rw [f1_shunt_L65]
        simp only [z_l1, Option.bind_some]
        by_cases c1 : nI N ≤ nI i + 1
        · rw [if_pos c1]
        · rw [if_neg c1, if_pos hx]
      simp only [if_neg h, if_neg hp, z_r8 ha, Option.bind_some]
      by_cases c0 : yG1 st a = 0
      · simp only [if_pos c0, z_g0E ha c0, Option.bind_some, ↓reduceIte, fin (-5) st (by decide)]
        exact ⟨_, _, rfl, rfl, hI⟩
      · obtain ⟨gI, gF⟩ := zG_I hI c0
        obtain ⟨w, hw, ew⟩ := zW_I (j := a) hI
        simp only [if_neg c0, z_g0 hI ha c0, z_la hI ha c0, z_r8 ha, z_w1g ha, Option.bind_some, ew, if_neg (z_ne5 hw), z_f1 hb]
        by_cases c1 : yG1 (zG a st) b = yG0 (zG a st) b
        · simp only [if_pos c1, z_c0F hb c1, Option.bind_some, ↓reduceIte, if_neg z_01, (z_c0 gI ha gF).1, z_c1 gI ha gF, fin (-4) _ (by decide)]
          exact ⟨_, _, rfl, rfl, zC_I gI gF hw⟩
        · obtain ⟨k0, k1, k2⟩ := z_c0 (w := nI w) gI hb c1
          simp only [if_neg c1, k0, if_neg k2, z_c1 gI hb c1, Option.bind_some, ↓reduceIte, yP8, nI_1]
          exact ih (m + 1) (i + 1) (yS8 (zC b (nI w) (zG a st)) _) (zC_I gI c1 hw) (by omega) (by omega) (by omega)
theorem pu_shunt (a b c : Int32) {st : St} (hI : Inv st) : yOK (f0_shunt a b c st) (f1_shunt a b c st) := by
  rcases z_bad a with ⟨j, hj, rfl⟩ | ⟨h0, h1⟩
  · rcases z_bad b with ⟨i, hi, rfl⟩ | ⟨h0, h1⟩
    · unfold f0_shunt f1_shunt f1_in
      simp only [Option.bind_some, z_it0 hj, z_it1 hj, z_it0 hi, z_it1 hi, if_neg z_01]
      by_cases n0 : c < 0
      · simp only [if_pos n0, Option.bind_some, ↓reduceIte]; exact ⟨-2, st, rfl, rfl, hI⟩
      · by_cases n1 : c ≤ 20
        · have n2 : ¬ (20 : Int32) < c := Int32.not_lt.mpr n1
          obtain ⟨N, hN, rfl⟩ := nI_of2 (M := 20) (n := 20) rfl n0 n1
          simp only [if_neg n0, if_pos n1, if_neg n2, Option.bind_some, if_neg z_01, yP8]
          have hI0 : Inv (yS8 st 0) := hI
          by_cases h : yG0 (yS8 st 0) j = 0
          · simp only [z_h0n hj h, z_h1n hj h, Option.bind_some, ↓reduceIte]
            exact ⟨-3, _, rfl, rfl, hI⟩
          · have hI1 : Inv (zH1 (yS8 st 0)) := hI
            simp only [z_h0y hI0 hj h, z_h1y hj h, Option.bind_some, if_neg z_01]
            by_cases g : yG0 (zH1 (yS8 st 0)) i = 0
            · simp only [z_h0n hi g, z_h1n hi g, Option.bind_some, ↓reduceIte, z_l0, z_l1]
              exact ⟨_, _, rfl, rfl, zL_I (st := zH0 (zH1 (yS8 st 0))) hI⟩
            · have hI2 : Inv (zH1 (zH1 (yS8 st 0))) := hI
              unfold f0_moveWagons
              simp only [z_h0y hI1 hi g, z_h1y hi g, Option.bind_some, if_neg z_01]
              obtain ⟨r, t, e0, e1, hIt⟩ := z_shunt hj hi hN 40 40 0 (zH1 (zH1 (yS8 st 0))) hI2 (by omega) (by omega) (by omega)
              rw [show (0 : Int32) = nI 0 from rfl] at *
              rw [e0, e1]
              simp only [Option.bind_some, z_l0]
              exact ⟨_, _, rfl, rfl, zL_I hIt⟩
        · have n2 : (20 : Int32) < c := Int32.not_le.mp n1
          simp only [if_neg n0, if_neg n1, if_pos n2, Option.bind_some, ↓reduceIte]; exact ⟨-2, st, rfl, rfl, hI⟩
    · unfold f0_shunt f1_shunt
      simp only [z_it0 hj, z_it1 hj, if_neg z_01, h0, h1, Option.bind_some, ↓reduceIte]; exact ⟨-2, st, rfl, rfl, hI⟩
  · unfold f0_shunt f1_shunt
    simp only [h0, h1, Option.bind_some, ↓reduceIte]; exact ⟨-2, st, rfl, rfl, hI⟩
theorem z_s2 (d : Int32) : d - 1 - 1 = d - 2 := by
  rw [Int32.sub_eq_add_neg, Int32.sub_eq_add_neg, Int32.sub_eq_add_neg, Int32.add_assoc]; rfl
theorem z_a2 (d : Int32) : d + 1 + 1 = d + 2 := by rw [Int32.add_assoc]; rfl
theorem z_LL {a : Nat} {w : Int32} {s : St} : zL 1 (-4) (zC a w (zL 1 (-4) s)) = zL 2 (-4) (zC a w s) := by
  rw [zL_n (by decide), zL_n (by decide), zL_n (by decide)]
  simp only [zC, yS1, yS2, yS5, yS6, yG1, yG2, yG5, yG6]
  rw [z_s2, z_a2]
theorem z_par {w : Nat} (h : w ≤ 999) : ((nI w - nI w / 10 * 10) - (nI w - nI w / 10 * 10) / 2 * 2 = 1) ↔ (nI w - nI w / 2 * 2 = 1) := by
  have e1 : nI w - nI w / 10 * 10 = nI (w % 10) := pk_rem (d := 10) (by omega) (by decide) (by decide)
  have e2 : nI (w % 10) - nI (w % 10) / 2 * 2 = nI (w % 10 % 2) := pk_rem (d := 2) (by omega) (by decide) (by decide)
  have e3 : nI w - nI w / 2 * 2 = nI (w % 2) := pk_rem (d := 2) (by omega) (by decide) (by decide)
  rw [e1, e2, e3, show w % 10 % 2 = w % 2 by omega]
theorem z_sweep {a b c : Nat} (ha : a < 8) (hb : b < 8) (hc : c < 8) (hab : a ≠ b) (hac : a ≠ c) : ∀ (n n' k : Nat) (st : St), Inv st → yG1 st a = nI k → k ≤ 12 → k < n → k + 1 < n' → ∃ r t, f0_sortWagons_L8 n (nI a) (nI b) (nI c) (nI k) st = some (r, t) ∧ f1_sweep_L53 n' (nI a) (nI b) (nI c) 1 st = some (r, zL 1 r t) ∧ Inv t := by
  intro n
  induction n with
  | zero => intro n' k st _ _ _ h; omega
  | succ n ih =>
    intro n' k st hI ek hk hn hn'
    obtain ⟨m, rfl⟩ : ∃ m, n' = m + 2 := ⟨n' - 2, by omega⟩
    rw [f0_sortWagons_L8, f1_sweep_L53]
    simp only [if_neg z_01, z_r8 ha, Option.bind_some, ek]
    rcases Nat.eq_zero_or_pos k with q | q
    · subst q
      have h : nI 0 ≤ 0 := by decide
      simp only [if_pos h, z_l1, Option.bind_some]
      exact ⟨_, _, rfl, rfl, hI⟩
    · obtain ⟨d, rfl⟩ : ∃ d, k = d + 1 := ⟨k - 1, by omega⟩
      have h : ¬ nI (d + 1) ≤ 0 := nI_nle (by omega) (by omega)
      have c0 : yG1 st a ≠ 0 := by rw [ek]; exact nI_ne0 (by omega) (by omega)
      obtain ⟨gI, gF⟩ := zG_I hI c0
      obtain ⟨w, hw, ew⟩ := zW_I (j := a) hI
      have eg : yW1 st (nI a) (nI (d + 1) - 1) = some (zG a st) := by rw [← ek]; exact z_w1g ha
      have e1 : yG1 (zG a st) a = nI d := by
        show (if a = a then yG1 st a - 1 else yG1 st a) = nI d
        rw [if_pos rfl, ek, nI_pred]
      simp only [if_neg h, z_g0 hI ha c0, z_la hI ha c0, z_r8 ha, ek, eg, Option.bind_some, ew, pk_m1]
      by_cases d0 : nI w - nI w / 10 * 10 = 0
      · simp only [if_pos d0]
        rw [f1_sweep_L53]
        simp only [↓reduceIte, z_l1, Option.bind_some]
        exact ⟨_, _, rfl, rfl, gI⟩
      · by_cases d9 : nI w - nI w / 10 * 10 = 9
        · simp only [if_neg d0, if_pos d9]
          exact ih (m + 1) d _ gI e1 (by omega) (by omega) (by omega)
        · simp only [if_neg d0, if_neg d9, z_par hw]
          have key : ∀ t : Nat, t < 8 → a ≠ t → ∃ r u, ((f0_holdAndCome (nI t) (nI w) (zG a st)).bind fun u_11 => if 0 ≤ u_11.1 then (yP8 u_11.2 ((yG8 u_11.2) + 1)).bind fun st_13 => f0_sortWagons_L8 n (nI a) (nI b) (nI c) (nI d) st_13 else (f0_come (nI a) (nI w) u_11.2).bind fun u_14 => some (u_11.1, u_14.2)) = some (r, u) ∧ ((f1_holds (nI t) (zG a st)).bind fun u_34 => if u_34.1 = 0 then (f1_come (nI a) (nI w) u_34.2).bind fun u_43 => (f1_goes 1 (-3) u_43.2).bind fun u_44 => some (u_44.1, u_44.2) else (f1_isFull (nI t) u_34.2).bind fun u_36 => if u_36.1 = 0 then (f1_come (nI t) (nI w) u_36.2).bind fun u_38 => (yP8 u_38.2 ((yG8 u_38.2) + 1)).bind fun st_39 => (f1_goes 1 0 st_39).bind fun u_40 => f1_sweep_L53 (m + 1) (nI a) (nI b) (nI c) 1 u_40.2 else (f1_come (nI a) (nI w) u_36.2).bind fun u_41 => (f1_goes 2 (-4) u_41.2).bind fun u_42 => some (u_42.1, u_42.2)) = some (r, zL 1 r u) ∧ Inv u := by
            intro t ht hat
            unfold f0_holdAndCome
            by_cases g : yG0 (zG a st) t = 0
            · have m3 : ¬ (0 : Int32) ≤ -3 := by decide
              have hI0 : Inv (zH0 (zG a st)) := gI
              have gF0 : yG1 (zH0 (zG a st)) a ≠ yG0 (zH0 (zG a st)) a := gF
              simp only [z_h0n ht g, z_h1n ht g, Option.bind_some, ↓reduceIte, if_neg m3, (z_c0 hI0 ha gF0).1, z_c1 hI0 ha gF0, z_l1]
              exact ⟨_, _, rfl, rfl, zC_I hI0 gF0 hw⟩
            · have hI1 : Inv (zH1 (zG a st)) := gI
              have gF1 : yG1 (zH1 (zG a st)) a ≠ yG0 (zH1 (zG a st)) a := gF
              simp only [z_h0y gI ht g, z_h1y ht g, Option.bind_some, if_neg z_01, z_f1 ht]
              by_cases f : yG1 (zH1 (zG a st)) t = yG0 (zH1 (zG a st)) t
              · have m4 : ¬ (0 : Int32) ≤ -4 := by decide
                have hI2 : Inv (zL 1 (-4) (zH1 (zG a st))) := zL_I hI1
                have gF2 : yG1 (zL 1 (-4) (zH1 (zG a st))) a ≠ yG0 (zL 1 (-4) (zH1 (zG a st))) a := by rw [zL_G.1, zL_G.2.1]; exact gF1
                simp only [if_pos f, z_c0F ht f, Option.bind_some, if_neg z_01, if_neg m4, z_l0, z_l1, (z_c0 hI2 ha gF2).1, z_c1 hI1 ha gF1]
                exact ⟨_, _, rfl, by rw [z_LL], zC_I hI2 gF2 hw⟩
              · obtain ⟨k0, k1, k2⟩ := z_c0 (w := nI w) hI1 ht f
                simp only [if_neg f, k0, z_c1 hI1 ht f, Option.bind_some, ↓reduceIte, if_pos k1, z_l0, z_l1, yP8]
                rw [zL_p k1, zL_p (show (0 : Int32) ≤ 0 by decide)]
                refine ih (m + 1) d (yS8 (yS6 (zC t (nI w) (zH1 (zG a st))) _) _) (zC_I hI1 f hw) ?_ (by omega) (by omega) (by omega)
                show (if a = t then yG1 (zG a st) t + 1 else yG1 (zG a st) a) = nI d
                rw [if_neg hat, e1]
          by_cases p : nI w - nI w / 2 * 2 = 1
          · simp only [if_pos p]; exact key b hb hab
          · simp only [if_neg p]; exact key c hc hac
theorem pu_sweep (a b c : Int32) {st : St} (hI : Inv st) : yOK (f0_sweep a b c st) (f1_sweep a b c st) := by
  rcases z_bad a with ⟨j, hj, rfl⟩ | ⟨h0, h1⟩
  · rcases z_bad b with ⟨i, hi, rfl⟩ | ⟨h0, h1⟩
    · rcases z_bad c with ⟨k, hk, rfl⟩ | ⟨h0, h1⟩
      · unfold f0_sweep f1_sweep
        simp only [Option.bind_some, z_it0 hj, z_it1 hj, z_it0 hi, z_it1 hi, z_it0 hk, z_it1 hk, if_neg z_01]
        by_cases n0 : nI j = nI i
        · simp only [if_pos n0]; exact ⟨-2, st, rfl, rfl, hI⟩
        · by_cases n1 : nI j = nI k
          · simp only [if_neg n0, if_pos n1]; exact ⟨-2, st, rfl, rfl, hI⟩
          · simp only [if_neg n0, if_neg n1, Option.bind_some, yP8]
            have hI0 : Inv (yS8 st 0) := hI
            by_cases h : yG0 (yS8 st 0) j = 0
            · simp only [z_h0n hj h, z_h1n hj h, Option.bind_some, ↓reduceIte]
              exact ⟨-3, _, rfl, rfl, hI⟩
            · have hI1 : Inv (zH1 (yS8 st 0)) := hI
              unfold f0_sortWagons
              obtain ⟨r, cc, w, e0, e1, e2, h1, h2, h3⟩ := hI1 j
              simp only [z_h0y hI0 hj h, z_h1y hj h, Option.bind_some, if_neg z_01, z_r8 hj, e1]
              obtain ⟨r, t, e0, e1, hIt⟩ := z_sweep hj hi hk (fun q => n0 (by rw [q])) (fun q => n1 (by rw [q])) 40 40 cc (zH1 (yS8 st 0)) hI1 e1 (by omega) (by omega) (by omega)
              rw [e0, e1]
              simp only [Option.bind_some, z_l0]
              exact ⟨_, _, rfl, rfl, zL_I hIt⟩
      · unfold f0_sweep f1_sweep
        simp only [z_it0 hj, z_it1 hj, z_it0 hi, z_it1 hi, if_neg z_01, h0, h1, Option.bind_some, ↓reduceIte]; exact ⟨-2, st, rfl, rfl, hI⟩
    · unfold f0_sweep f1_sweep
      simp only [z_it0 hj, z_it1 hj, if_neg z_01, h0, h1, Option.bind_some, ↓reduceIte]; exact ⟨-2, st, rfl, rfl, hI⟩
  · unfold f0_sweep f1_sweep
    simp only [h0, h1, Option.bind_some, ↓reduceIte]; exact ⟨-2, st, rfl, rfl, hI⟩
