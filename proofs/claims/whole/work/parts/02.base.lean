/-! The state of either object (class and reference have the same slots), and the words of the pure programs that are walked. -/
abbrev St : Type := (Nat → Int32) × (Nat → Int32) × (Nat → Int32) × Int32 × Int32 × Int32 × Int32 × Int32 × Int32
def yrd (f : Nat → Int32) (n : Nat) (i : Int32) : Option Int32 := if i < 0 ∨ n ≤ i.toNatClampNeg then none else some (f i.toNatClampNeg)
def ywr (f : Nat → Int32) (n : Nat) (i : Int32) (x : Int32) : Option (Nat → Int32) := if i < 0 ∨ n ≤ i.toNatClampNeg then none else some (upd f i.toNatClampNeg x)
def yG0 (st : St) : Nat → Int32 := st.1
def yS0 (st : St) (v : Nat → Int32) : St := (v, st.2)
def yG1 (st : St) : Nat → Int32 := st.2.1
def yS1 (st : St) (v : Nat → Int32) : St := (st.1, v, st.2.2)
def yG2 (st : St) : Nat → Int32 := st.2.2.1
def yS2 (st : St) (v : Nat → Int32) : St := (st.1, st.2.1, v, st.2.2.2)
def yG3 (st : St) : Int32 := st.2.2.2.1
def yS3 (st : St) (v : Int32) : St := (st.1, st.2.1, st.2.2.1, v, st.2.2.2.2)
def yG4 (st : St) : Int32 := st.2.2.2.2.1
def yS4 (st : St) (v : Int32) : St := (st.1, st.2.1, st.2.2.1, st.2.2.2.1, v, st.2.2.2.2.2)
def yG5 (st : St) : Int32 := st.2.2.2.2.2.1
def yS5 (st : St) (v : Int32) : St := (st.1, st.2.1, st.2.2.1, st.2.2.2.1, st.2.2.2.2.1, v, st.2.2.2.2.2.2)
def yG6 (st : St) : Int32 := st.2.2.2.2.2.2.1
def yS6 (st : St) (v : Int32) : St := (st.1, st.2.1, st.2.2.1, st.2.2.2.1, st.2.2.2.2.1, st.2.2.2.2.2.1, v, st.2.2.2.2.2.2.2)
def yG7 (st : St) : Int32 := st.2.2.2.2.2.2.2.1
def yS7 (st : St) (v : Int32) : St := (st.1, st.2.1, st.2.2.1, st.2.2.2.1, st.2.2.2.2.1, st.2.2.2.2.2.1, st.2.2.2.2.2.2.1, v, st.2.2.2.2.2.2.2.2)
def yG8 (st : St) : Int32 := st.2.2.2.2.2.2.2.2
def yS8 (st : St) (v : Int32) : St := (st.1, st.2.1, st.2.2.1, st.2.2.2.1, st.2.2.2.2.1, st.2.2.2.2.2.1, st.2.2.2.2.2.2.1, st.2.2.2.2.2.2.2.1, v)
def yP3 (st : St) (v : Int32) : Option St := some (yS3 st v)
def yP4 (st : St) (v : Int32) : Option St := some (yS4 st v)
def yP5 (st : St) (v : Int32) : Option St := some (yS5 st v)
def yP6 (st : St) (v : Int32) : Option St := some (yS6 st v)
def yP7 (st : St) (v : Int32) : Option St := some (yS7 st v)
def yP8 (st : St) (v : Int32) : Option St := some (yS8 st v)
def yW0 (st : St) (i x : Int32) : Option St := (ywr (yG0 st) 8 i x).map (yS0 st)
def yW1 (st : St) (i x : Int32) : Option St := (ywr (yG1 st) 8 i x).map (yS1 st)
def yW2 (st : St) (i x : Int32) : Option St := (ywr (yG2 st) 96 i x).map (yS2 st)
def yf (q1 q2 q3 : Nat) (st : St) : List Value := [.ref q1, .ref q2, .ref q3, .int st.2.2.2.1, .int st.2.2.2.2.1, .int st.2.2.2.2.2.1, .int st.2.2.2.2.2.2.1, .int st.2.2.2.2.2.2.2.1, .int st.2.2.2.2.2.2.2.2]
def yw (ci h0 q1 q2 q3 : Nat) (cA : ClassId) (st : St) : va_W := [(h0, .inr (ci, yf q1 q2 q3 st)), (q1, .inl (cA, 8, .inl st.1)), (q2, .inl (cA, 8, .inl st.2.1)), (q3, .inl (cA, 96, .inl st.2.2.1))]
def Wd (D : va_G) (ci h0 q1 q2 q3 : Nat) (cA : ClassId) (A : Nat → Prop) (s : State) (st : St) (H : Heap) (locs : List Loc) : Prop := va_K D vwCl [(cA, .int)] s ∧ va_P D vwCl (yw ci h0 q1 q2 q3 cA st) H ∧ va_D A (yw ci h0 q1 q2 q3 cA st) ∧ va_S A s.heap H locs
def yrm (k : Nat) : Room := { frames := k, cells := 0, slots := 0, locals := 30 * k }
theorem y_ifp {α : Type} {P : Prop} {i : Decidable P} {a b o : α} (h : P) (q : (@ite α P i a b) = o) : a = o := by rw [if_pos h] at q; exact q
theorem y_ifn {α : Type} {P : Prop} {i : Decidable P} {a b o : α} (h : ¬ P) (q : (@ite α P i a b) = o) : b = o := by rw [if_neg h] at q; exact q
theorem y_bd {α β : Type} {o : Option α} {g : α → Option β} {b : β} (q : o.bind g = some b) : ∃ a, o = some a ∧ g a = some b := Option.bind_eq_some_iff.mp q
theorem y_rd {f : Nat → Int32} {n : Nat} {i x : Int32} (h : yrd f n i = some x) : vp_in i n ∧ f i.toNatClampNeg = x := by
  unfold yrd at h
  by_cases q : i < 0 ∨ n ≤ i.toNatClampNeg
  · rw [if_pos q] at h; cases h
  · rw [if_neg q] at h; exact ⟨q, Option.some.inj h⟩
theorem y_wr {f g : Nat → Int32} {n : Nat} {i x : Int32} (h : ywr f n i x = some g) : vp_in i n ∧ upd f i.toNatClampNeg x = g := by
  unfold ywr at h
  by_cases q : i < 0 ∨ n ≤ i.toNatClampNeg
  · rw [if_pos q] at h; cases h
  · rw [if_neg q] at h; exact ⟨q, Option.some.inj h⟩
section YB
variable {p : Program} {l : Launch} {e : Env} {R : Room} {s : State} {m : MethodId} {args : Array Value} {below : List Frame} {meth : Method} {c : Code} {H : Heap} {locs : List Loc} {cells slots : Nat} {Q : State → Prop} {cc : ByteArray} {pc nL : Nat} {ls : Array Slot} {rest : List Value} {Ts : List Cond} {own : String} {D : va_G} {ci h0 q1 q2 q3 : Nat} {cA : ClassId} {A : Nat → Prop} {st : St}
theorem yget0 (F : CallFix p m c cc nL s args Ts RX0) (hin : ∀ w ∈ wsX00, w ∈ Ts) (w : Wd D 0 h0 q1 q2 q3 cA A s st H locs) (k : Nat) (hk : k < 9) {index : Nat} (hl : Cond.fieldLink RX0 index (TX0 k).1 (TX0 k).2.1 (TX0 k).2.2.1 ∈ Ts) {v : Value} (hv : (yf q1 q2 q3 st)[k]? = some v) (hdg : decode cc pc = .ok (.getfield index, 3)) (kk : W p l e R s m args below meth c H locs cells slots Q (F0 m (pc + 3) ls (v :: rest))) : W p l e R s m args below meth c H locs cells slots Q (F0 m pc ls (.ref h0 :: rest)) :=
  va_get (D := D) (ci := 0) (v := v) (C := RX0) (T := TX0) (N := 9) F.1 F.2.1 F.2.2.2.2 hin F.2.2.2.1 w.1 w.2.1 0 rfl rfl k hk (F.2.2.2.2 _ hl) (fun _ h9 => h9) hv hdg kk
theorem yput0_3 (F : CallFix p m c cc nL s args Ts RX0) (hin : ∀ w ∈ wsX00, w ∈ Ts) (w : Wd D 0 h0 q1 q2 q3 cA A s st H locs) {index : Nat} (hl : Cond.fieldLink RX0 index (TX0 3).1 (TX0 3).2.1 (TX0 3).2.2.1 ∈ Ts) {v : Int32} {st1 : St} (hs : yP3 st v = some st1) (hdg : decode cc pc = .ok (.putfield index, 3)) (kk : ∀ (H1 : Heap) (locs1 : List Loc), Wd D 0 h0 q1 q2 q3 cA A s st1 H1 locs1 → W p l e R s m args below meth c H1 locs1 cells slots Q (F0 m (pc + 3) ls rest)) : W p l e R s m args below meth c H locs cells slots Q (F0 m pc ls (.int v :: .ref h0 :: rest)) := by
  obtain rfl := Option.some.inj hs
  exact va_put (D := D) (ci := 0) (v := .int v) (ty := .int) (C := RX0) (T := TX0) (N := 9) F.1 F.2.1 F.2.2.2.2 hin tyX0 tyX0_ok nmX0 F.2.2.2.1 w.1 w.2.1 w.2.2.1 w.2.2.2 0 rfl rfl 3 (by decide) (F.2.2.2.2 _ hl) (fun _ h9 => h9) rfl (by decide +kernel) rfl rfl (Nat.le_of_ble_eq_true rfl) hdg (fun H1 locs1 hP hD hS => kk H1 locs1 ⟨w.1, hP, hD, hS⟩)
theorem yput0_4 (F : CallFix p m c cc nL s args Ts RX0) (hin : ∀ w ∈ wsX00, w ∈ Ts) (w : Wd D 0 h0 q1 q2 q3 cA A s st H locs) {index : Nat} (hl : Cond.fieldLink RX0 index (TX0 4).1 (TX0 4).2.1 (TX0 4).2.2.1 ∈ Ts) {v : Int32} {st1 : St} (hs : yP4 st v = some st1) (hdg : decode cc pc = .ok (.putfield index, 3)) (kk : ∀ (H1 : Heap) (locs1 : List Loc), Wd D 0 h0 q1 q2 q3 cA A s st1 H1 locs1 → W p l e R s m args below meth c H1 locs1 cells slots Q (F0 m (pc + 3) ls rest)) : W p l e R s m args below meth c H locs cells slots Q (F0 m pc ls (.int v :: .ref h0 :: rest)) := by
  obtain rfl := Option.some.inj hs
  exact va_put (D := D) (ci := 0) (v := .int v) (ty := .int) (C := RX0) (T := TX0) (N := 9) F.1 F.2.1 F.2.2.2.2 hin tyX0 tyX0_ok nmX0 F.2.2.2.1 w.1 w.2.1 w.2.2.1 w.2.2.2 0 rfl rfl 4 (by decide) (F.2.2.2.2 _ hl) (fun _ h9 => h9) rfl (by decide +kernel) rfl rfl (Nat.le_of_ble_eq_true rfl) hdg (fun H1 locs1 hP hD hS => kk H1 locs1 ⟨w.1, hP, hD, hS⟩)
theorem yput0_5 (F : CallFix p m c cc nL s args Ts RX0) (hin : ∀ w ∈ wsX00, w ∈ Ts) (w : Wd D 0 h0 q1 q2 q3 cA A s st H locs) {index : Nat} (hl : Cond.fieldLink RX0 index (TX0 5).1 (TX0 5).2.1 (TX0 5).2.2.1 ∈ Ts) {v : Int32} {st1 : St} (hs : yP5 st v = some st1) (hdg : decode cc pc = .ok (.putfield index, 3)) (kk : ∀ (H1 : Heap) (locs1 : List Loc), Wd D 0 h0 q1 q2 q3 cA A s st1 H1 locs1 → W p l e R s m args below meth c H1 locs1 cells slots Q (F0 m (pc + 3) ls rest)) : W p l e R s m args below meth c H locs cells slots Q (F0 m pc ls (.int v :: .ref h0 :: rest)) := by
  obtain rfl := Option.some.inj hs
  exact va_put (D := D) (ci := 0) (v := .int v) (ty := .int) (C := RX0) (T := TX0) (N := 9) F.1 F.2.1 F.2.2.2.2 hin tyX0 tyX0_ok nmX0 F.2.2.2.1 w.1 w.2.1 w.2.2.1 w.2.2.2 0 rfl rfl 5 (by decide) (F.2.2.2.2 _ hl) (fun _ h9 => h9) rfl (by decide +kernel) rfl rfl (Nat.le_of_ble_eq_true rfl) hdg (fun H1 locs1 hP hD hS => kk H1 locs1 ⟨w.1, hP, hD, hS⟩)
theorem yput0_6 (F : CallFix p m c cc nL s args Ts RX0) (hin : ∀ w ∈ wsX00, w ∈ Ts) (w : Wd D 0 h0 q1 q2 q3 cA A s st H locs) {index : Nat} (hl : Cond.fieldLink RX0 index (TX0 6).1 (TX0 6).2.1 (TX0 6).2.2.1 ∈ Ts) {v : Int32} {st1 : St} (hs : yP6 st v = some st1) (hdg : decode cc pc = .ok (.putfield index, 3)) (kk : ∀ (H1 : Heap) (locs1 : List Loc), Wd D 0 h0 q1 q2 q3 cA A s st1 H1 locs1 → W p l e R s m args below meth c H1 locs1 cells slots Q (F0 m (pc + 3) ls rest)) : W p l e R s m args below meth c H locs cells slots Q (F0 m pc ls (.int v :: .ref h0 :: rest)) := by
  obtain rfl := Option.some.inj hs
  exact va_put (D := D) (ci := 0) (v := .int v) (ty := .int) (C := RX0) (T := TX0) (N := 9) F.1 F.2.1 F.2.2.2.2 hin tyX0 tyX0_ok nmX0 F.2.2.2.1 w.1 w.2.1 w.2.2.1 w.2.2.2 0 rfl rfl 6 (by decide) (F.2.2.2.2 _ hl) (fun _ h9 => h9) rfl (by decide +kernel) rfl rfl (Nat.le_of_ble_eq_true rfl) hdg (fun H1 locs1 hP hD hS => kk H1 locs1 ⟨w.1, hP, hD, hS⟩)
theorem yput0_7 (F : CallFix p m c cc nL s args Ts RX0) (hin : ∀ w ∈ wsX00, w ∈ Ts) (w : Wd D 0 h0 q1 q2 q3 cA A s st H locs) {index : Nat} (hl : Cond.fieldLink RX0 index (TX0 7).1 (TX0 7).2.1 (TX0 7).2.2.1 ∈ Ts) {v : Int32} {st1 : St} (hs : yP7 st v = some st1) (hdg : decode cc pc = .ok (.putfield index, 3)) (kk : ∀ (H1 : Heap) (locs1 : List Loc), Wd D 0 h0 q1 q2 q3 cA A s st1 H1 locs1 → W p l e R s m args below meth c H1 locs1 cells slots Q (F0 m (pc + 3) ls rest)) : W p l e R s m args below meth c H locs cells slots Q (F0 m pc ls (.int v :: .ref h0 :: rest)) := by
  obtain rfl := Option.some.inj hs
  exact va_put (D := D) (ci := 0) (v := .int v) (ty := .int) (C := RX0) (T := TX0) (N := 9) F.1 F.2.1 F.2.2.2.2 hin tyX0 tyX0_ok nmX0 F.2.2.2.1 w.1 w.2.1 w.2.2.1 w.2.2.2 0 rfl rfl 7 (by decide) (F.2.2.2.2 _ hl) (fun _ h9 => h9) rfl (by decide +kernel) rfl rfl (Nat.le_of_ble_eq_true rfl) hdg (fun H1 locs1 hP hD hS => kk H1 locs1 ⟨w.1, hP, hD, hS⟩)
theorem yput0_8 (F : CallFix p m c cc nL s args Ts RX0) (hin : ∀ w ∈ wsX00, w ∈ Ts) (w : Wd D 0 h0 q1 q2 q3 cA A s st H locs) {index : Nat} (hl : Cond.fieldLink RX0 index (TX0 8).1 (TX0 8).2.1 (TX0 8).2.2.1 ∈ Ts) {v : Int32} {st1 : St} (hs : yP8 st v = some st1) (hdg : decode cc pc = .ok (.putfield index, 3)) (kk : ∀ (H1 : Heap) (locs1 : List Loc), Wd D 0 h0 q1 q2 q3 cA A s st1 H1 locs1 → W p l e R s m args below meth c H1 locs1 cells slots Q (F0 m (pc + 3) ls rest)) : W p l e R s m args below meth c H locs cells slots Q (F0 m pc ls (.int v :: .ref h0 :: rest)) := by
  obtain rfl := Option.some.inj hs
  exact va_put (D := D) (ci := 0) (v := .int v) (ty := .int) (C := RX0) (T := TX0) (N := 9) F.1 F.2.1 F.2.2.2.2 hin tyX0 tyX0_ok nmX0 F.2.2.2.1 w.1 w.2.1 w.2.2.1 w.2.2.2 0 rfl rfl 8 (by decide) (F.2.2.2.2 _ hl) (fun _ h9 => h9) rfl (by decide +kernel) rfl rfl (Nat.le_of_ble_eq_true rfl) hdg (fun H1 locs1 hP hD hS => kk H1 locs1 ⟨w.1, hP, hD, hS⟩)
theorem yget1 (F : CallFix p m c cc nL s args Ts RX1) (hin : ∀ w ∈ wsX10, w ∈ Ts) (w : Wd D 1 h0 q1 q2 q3 cA A s st H locs) (k : Nat) (hk : k < 9) {index : Nat} (hl : Cond.fieldLink RX1 index (TX1 k).1 (TX1 k).2.1 (TX1 k).2.2.1 ∈ Ts) {v : Value} (hv : (yf q1 q2 q3 st)[k]? = some v) (hdg : decode cc pc = .ok (.getfield index, 3)) (kk : W p l e R s m args below meth c H locs cells slots Q (F0 m (pc + 3) ls (v :: rest))) : W p l e R s m args below meth c H locs cells slots Q (F0 m pc ls (.ref h0 :: rest)) :=
  va_get (D := D) (ci := 1) (v := v) (C := RX1) (T := TX1) (N := 9) F.1 F.2.1 F.2.2.2.2 hin F.2.2.2.1 w.1 w.2.1 0 rfl rfl k hk (F.2.2.2.2 _ hl) (fun _ h9 => h9) hv hdg kk
theorem yput1_3 (F : CallFix p m c cc nL s args Ts RX1) (hin : ∀ w ∈ wsX10, w ∈ Ts) (w : Wd D 1 h0 q1 q2 q3 cA A s st H locs) {index : Nat} (hl : Cond.fieldLink RX1 index (TX1 3).1 (TX1 3).2.1 (TX1 3).2.2.1 ∈ Ts) {v : Int32} {st1 : St} (hs : yP3 st v = some st1) (hdg : decode cc pc = .ok (.putfield index, 3)) (kk : ∀ (H1 : Heap) (locs1 : List Loc), Wd D 1 h0 q1 q2 q3 cA A s st1 H1 locs1 → W p l e R s m args below meth c H1 locs1 cells slots Q (F0 m (pc + 3) ls rest)) : W p l e R s m args below meth c H locs cells slots Q (F0 m pc ls (.int v :: .ref h0 :: rest)) := by
  obtain rfl := Option.some.inj hs
  exact va_put (D := D) (ci := 1) (v := .int v) (ty := .int) (C := RX1) (T := TX1) (N := 9) F.1 F.2.1 F.2.2.2.2 hin tyX1 tyX1_ok nmX1 F.2.2.2.1 w.1 w.2.1 w.2.2.1 w.2.2.2 0 rfl rfl 3 (by decide) (F.2.2.2.2 _ hl) (fun _ h9 => h9) rfl (by decide +kernel) rfl rfl (Nat.le_of_ble_eq_true rfl) hdg (fun H1 locs1 hP hD hS => kk H1 locs1 ⟨w.1, hP, hD, hS⟩)
theorem yput1_4 (F : CallFix p m c cc nL s args Ts RX1) (hin : ∀ w ∈ wsX10, w ∈ Ts) (w : Wd D 1 h0 q1 q2 q3 cA A s st H locs) {index : Nat} (hl : Cond.fieldLink RX1 index (TX1 4).1 (TX1 4).2.1 (TX1 4).2.2.1 ∈ Ts) {v : Int32} {st1 : St} (hs : yP4 st v = some st1) (hdg : decode cc pc = .ok (.putfield index, 3)) (kk : ∀ (H1 : Heap) (locs1 : List Loc), Wd D 1 h0 q1 q2 q3 cA A s st1 H1 locs1 → W p l e R s m args below meth c H1 locs1 cells slots Q (F0 m (pc + 3) ls rest)) : W p l e R s m args below meth c H locs cells slots Q (F0 m pc ls (.int v :: .ref h0 :: rest)) := by
  obtain rfl := Option.some.inj hs
  exact va_put (D := D) (ci := 1) (v := .int v) (ty := .int) (C := RX1) (T := TX1) (N := 9) F.1 F.2.1 F.2.2.2.2 hin tyX1 tyX1_ok nmX1 F.2.2.2.1 w.1 w.2.1 w.2.2.1 w.2.2.2 0 rfl rfl 4 (by decide) (F.2.2.2.2 _ hl) (fun _ h9 => h9) rfl (by decide +kernel) rfl rfl (Nat.le_of_ble_eq_true rfl) hdg (fun H1 locs1 hP hD hS => kk H1 locs1 ⟨w.1, hP, hD, hS⟩)
theorem yput1_5 (F : CallFix p m c cc nL s args Ts RX1) (hin : ∀ w ∈ wsX10, w ∈ Ts) (w : Wd D 1 h0 q1 q2 q3 cA A s st H locs) {index : Nat} (hl : Cond.fieldLink RX1 index (TX1 5).1 (TX1 5).2.1 (TX1 5).2.2.1 ∈ Ts) {v : Int32} {st1 : St} (hs : yP5 st v = some st1) (hdg : decode cc pc = .ok (.putfield index, 3)) (kk : ∀ (H1 : Heap) (locs1 : List Loc), Wd D 1 h0 q1 q2 q3 cA A s st1 H1 locs1 → W p l e R s m args below meth c H1 locs1 cells slots Q (F0 m (pc + 3) ls rest)) : W p l e R s m args below meth c H locs cells slots Q (F0 m pc ls (.int v :: .ref h0 :: rest)) := by
  obtain rfl := Option.some.inj hs
  exact va_put (D := D) (ci := 1) (v := .int v) (ty := .int) (C := RX1) (T := TX1) (N := 9) F.1 F.2.1 F.2.2.2.2 hin tyX1 tyX1_ok nmX1 F.2.2.2.1 w.1 w.2.1 w.2.2.1 w.2.2.2 0 rfl rfl 5 (by decide) (F.2.2.2.2 _ hl) (fun _ h9 => h9) rfl (by decide +kernel) rfl rfl (Nat.le_of_ble_eq_true rfl) hdg (fun H1 locs1 hP hD hS => kk H1 locs1 ⟨w.1, hP, hD, hS⟩)
theorem yput1_6 (F : CallFix p m c cc nL s args Ts RX1) (hin : ∀ w ∈ wsX10, w ∈ Ts) (w : Wd D 1 h0 q1 q2 q3 cA A s st H locs) {index : Nat} (hl : Cond.fieldLink RX1 index (TX1 6).1 (TX1 6).2.1 (TX1 6).2.2.1 ∈ Ts) {v : Int32} {st1 : St} (hs : yP6 st v = some st1) (hdg : decode cc pc = .ok (.putfield index, 3)) (kk : ∀ (H1 : Heap) (locs1 : List Loc), Wd D 1 h0 q1 q2 q3 cA A s st1 H1 locs1 → W p l e R s m args below meth c H1 locs1 cells slots Q (F0 m (pc + 3) ls rest)) : W p l e R s m args below meth c H locs cells slots Q (F0 m pc ls (.int v :: .ref h0 :: rest)) := by
  obtain rfl := Option.some.inj hs
  exact va_put (D := D) (ci := 1) (v := .int v) (ty := .int) (C := RX1) (T := TX1) (N := 9) F.1 F.2.1 F.2.2.2.2 hin tyX1 tyX1_ok nmX1 F.2.2.2.1 w.1 w.2.1 w.2.2.1 w.2.2.2 0 rfl rfl 6 (by decide) (F.2.2.2.2 _ hl) (fun _ h9 => h9) rfl (by decide +kernel) rfl rfl (Nat.le_of_ble_eq_true rfl) hdg (fun H1 locs1 hP hD hS => kk H1 locs1 ⟨w.1, hP, hD, hS⟩)
theorem yput1_7 (F : CallFix p m c cc nL s args Ts RX1) (hin : ∀ w ∈ wsX10, w ∈ Ts) (w : Wd D 1 h0 q1 q2 q3 cA A s st H locs) {index : Nat} (hl : Cond.fieldLink RX1 index (TX1 7).1 (TX1 7).2.1 (TX1 7).2.2.1 ∈ Ts) {v : Int32} {st1 : St} (hs : yP7 st v = some st1) (hdg : decode cc pc = .ok (.putfield index, 3)) (kk : ∀ (H1 : Heap) (locs1 : List Loc), Wd D 1 h0 q1 q2 q3 cA A s st1 H1 locs1 → W p l e R s m args below meth c H1 locs1 cells slots Q (F0 m (pc + 3) ls rest)) : W p l e R s m args below meth c H locs cells slots Q (F0 m pc ls (.int v :: .ref h0 :: rest)) := by
  obtain rfl := Option.some.inj hs
  exact va_put (D := D) (ci := 1) (v := .int v) (ty := .int) (C := RX1) (T := TX1) (N := 9) F.1 F.2.1 F.2.2.2.2 hin tyX1 tyX1_ok nmX1 F.2.2.2.1 w.1 w.2.1 w.2.2.1 w.2.2.2 0 rfl rfl 7 (by decide) (F.2.2.2.2 _ hl) (fun _ h9 => h9) rfl (by decide +kernel) rfl rfl (Nat.le_of_ble_eq_true rfl) hdg (fun H1 locs1 hP hD hS => kk H1 locs1 ⟨w.1, hP, hD, hS⟩)
theorem yput1_8 (F : CallFix p m c cc nL s args Ts RX1) (hin : ∀ w ∈ wsX10, w ∈ Ts) (w : Wd D 1 h0 q1 q2 q3 cA A s st H locs) {index : Nat} (hl : Cond.fieldLink RX1 index (TX1 8).1 (TX1 8).2.1 (TX1 8).2.2.1 ∈ Ts) {v : Int32} {st1 : St} (hs : yP8 st v = some st1) (hdg : decode cc pc = .ok (.putfield index, 3)) (kk : ∀ (H1 : Heap) (locs1 : List Loc), Wd D 1 h0 q1 q2 q3 cA A s st1 H1 locs1 → W p l e R s m args below meth c H1 locs1 cells slots Q (F0 m (pc + 3) ls rest)) : W p l e R s m args below meth c H locs cells slots Q (F0 m pc ls (.int v :: .ref h0 :: rest)) := by
  obtain rfl := Option.some.inj hs
  exact va_put (D := D) (ci := 1) (v := .int v) (ty := .int) (C := RX1) (T := TX1) (N := 9) F.1 F.2.1 F.2.2.2.2 hin tyX1 tyX1_ok nmX1 F.2.2.2.1 w.1 w.2.1 w.2.2.1 w.2.2.2 0 rfl rfl 8 (by decide) (F.2.2.2.2 _ hl) (fun _ h9 => h9) rfl (by decide +kernel) rfl rfl (Nat.le_of_ble_eq_true rfl) hdg (fun H1 locs1 hP hD hS => kk H1 locs1 ⟨w.1, hP, hD, hS⟩)
theorem yald0 (F : CallFix p m c cc nL s args Ts own) (w : Wd D ci h0 q1 q2 q3 cA A s st H locs) {i x : Int32} (hx : yrd (yG0 st) 8 i = some x) (hdg : decode cc pc = .ok (.iaload, 1)) (kk : W p l e R s m args below meth c H locs cells slots Q (F0 m (pc + 1) ls (.int x :: rest))) : W p l e R s m args below meth c H locs cells slots Q (F0 m pc ls (.int i :: .ref q1 :: rest)) := by
  obtain ⟨h1, h2⟩ := y_rd hx
  subst h2
  exact va_iald (f := yG0 st) F.1 F.2.1 w.1 w.2.1 1 0 rfl rfl h1 hdg kk
theorem yast0 (F : CallFix p m c cc nL s args Ts own) (w : Wd D ci h0 q1 q2 q3 cA A s st H locs) {i x : Int32} {st1 : St} (hx : yW0 st i x = some st1) (hdg : decode cc pc = .ok (.iastore, 1)) (kk : ∀ (H1 : Heap) (locs1 : List Loc), Wd D ci h0 q1 q2 q3 cA A s st1 H1 locs1 → W p l e R s m args below meth c H1 locs1 cells slots Q (F0 m (pc + 1) ls rest)) : W p l e R s m args below meth c H locs cells slots Q (F0 m pc ls (.int x :: .int i :: .ref q1 :: rest)) := by
  obtain ⟨g, hg, rfl⟩ := Option.map_eq_some_iff.mp hx
  obtain ⟨h1, h2⟩ := y_wr hg
  subst h2
  exact va_iast (f := yG0 st) F.1 F.2.1 w.1 w.2.1 w.2.2.1 w.2.2.2 1 0 rfl rfl h1 hdg (fun H1 locs1 hP hD hS => kk H1 locs1 ⟨w.1, hP, hD, hS⟩)
theorem yald1 (F : CallFix p m c cc nL s args Ts own) (w : Wd D ci h0 q1 q2 q3 cA A s st H locs) {i x : Int32} (hx : yrd (yG1 st) 8 i = some x) (hdg : decode cc pc = .ok (.iaload, 1)) (kk : W p l e R s m args below meth c H locs cells slots Q (F0 m (pc + 1) ls (.int x :: rest))) : W p l e R s m args below meth c H locs cells slots Q (F0 m pc ls (.int i :: .ref q2 :: rest)) := by
  obtain ⟨h1, h2⟩ := y_rd hx
  subst h2
  exact va_iald (f := yG1 st) F.1 F.2.1 w.1 w.2.1 2 0 rfl rfl h1 hdg kk
theorem yast1 (F : CallFix p m c cc nL s args Ts own) (w : Wd D ci h0 q1 q2 q3 cA A s st H locs) {i x : Int32} {st1 : St} (hx : yW1 st i x = some st1) (hdg : decode cc pc = .ok (.iastore, 1)) (kk : ∀ (H1 : Heap) (locs1 : List Loc), Wd D ci h0 q1 q2 q3 cA A s st1 H1 locs1 → W p l e R s m args below meth c H1 locs1 cells slots Q (F0 m (pc + 1) ls rest)) : W p l e R s m args below meth c H locs cells slots Q (F0 m pc ls (.int x :: .int i :: .ref q2 :: rest)) := by
  obtain ⟨g, hg, rfl⟩ := Option.map_eq_some_iff.mp hx
  obtain ⟨h1, h2⟩ := y_wr hg
  subst h2
  exact va_iast (f := yG1 st) F.1 F.2.1 w.1 w.2.1 w.2.2.1 w.2.2.2 2 0 rfl rfl h1 hdg (fun H1 locs1 hP hD hS => kk H1 locs1 ⟨w.1, hP, hD, hS⟩)
theorem yald2 (F : CallFix p m c cc nL s args Ts own) (w : Wd D ci h0 q1 q2 q3 cA A s st H locs) {i x : Int32} (hx : yrd (yG2 st) 96 i = some x) (hdg : decode cc pc = .ok (.iaload, 1)) (kk : W p l e R s m args below meth c H locs cells slots Q (F0 m (pc + 1) ls (.int x :: rest))) : W p l e R s m args below meth c H locs cells slots Q (F0 m pc ls (.int i :: .ref q3 :: rest)) := by
  obtain ⟨h1, h2⟩ := y_rd hx
  subst h2
  exact va_iald (f := yG2 st) F.1 F.2.1 w.1 w.2.1 3 0 rfl rfl h1 hdg kk
theorem yast2 (F : CallFix p m c cc nL s args Ts own) (w : Wd D ci h0 q1 q2 q3 cA A s st H locs) {i x : Int32} {st1 : St} (hx : yW2 st i x = some st1) (hdg : decode cc pc = .ok (.iastore, 1)) (kk : ∀ (H1 : Heap) (locs1 : List Loc), Wd D ci h0 q1 q2 q3 cA A s st1 H1 locs1 → W p l e R s m args below meth c H1 locs1 cells slots Q (F0 m (pc + 1) ls rest)) : W p l e R s m args below meth c H locs cells slots Q (F0 m pc ls (.int x :: .int i :: .ref q3 :: rest)) := by
  obtain ⟨g, hg, rfl⟩ := Option.map_eq_some_iff.mp hx
  obtain ⟨h1, h2⟩ := y_wr hg
  subst h2
  exact va_iast (f := yG2 st) F.1 F.2.1 w.1 w.2.1 w.2.2.1 w.2.2.2 3 0 rfl rfl h1 hdg (fun H1 locs1 hP hD hS => kk H1 locs1 ⟨w.1, hP, hD, hS⟩)
/-- a contract: where the pure program f answers, the method returns that answer and leaves that state -/
def yMet (l : Launch) (D : va_G) (ci : Nat) (y : MethodName) (ws : List Cond) (k : Nat) (av : List Value) (f : St → Option (Int32 × St)) : Prop :=
  ∀ (h0 q1 q2 q3 : Nat) (cA : ClassId) (sz : Nat) (st st2 : St) (r : Int32), f st = some (r, st2) → Met l y ws (yrm k) (va_Pc (.ref h0 :: av) (fun U => U.heap.size = sz ∧ va_P D vwCl (yw ci h0 q1 q2 q3 cA st) U.heap ∧ va_K D vwCl [(cA, .int)] U ∧ va_D (fun _ => True) (yw ci h0 q1 q2 q3 cA st))) (va_Qi (fun (r2 : Int32) (u : St) => r2 = r ∧ u = st2) (fun u t => va_P D vwCl (yw ci h0 q1 q2 q3 cA u) t.heap ∧ va_K D vwCl [(cA, .int)] t ∧ va_D (va_A (yw ci h0 q1 q2 q3 cA st) sz) (yw ci h0 q1 q2 q3 cA u)) (va_A (yw ci h0 q1 q2 q3 cA st) sz)) 0 0 (va_A (yw ci h0 q1 q2 q3 cA st) sz)
/-- the same of a method that answers nothing -/
def yMetV (l : Launch) (D : va_G) (ci : Nat) (y : MethodName) (ws : List Cond) (k : Nat) (av : List Value) (f : St → Option (Int32 × St)) : Prop :=
  ∀ (h0 q1 q2 q3 : Nat) (cA : ClassId) (sz : Nat) (st st2 : St) (r : Int32), f st = some (r, st2) → Met l y ws (yrm k) (va_Pc (.ref h0 :: av) (fun U => U.heap.size = sz ∧ va_P D vwCl (yw ci h0 q1 q2 q3 cA st) U.heap ∧ va_K D vwCl [(cA, .int)] U ∧ va_D (fun _ => True) (yw ci h0 q1 q2 q3 cA st))) (va_Qv (fun (u : St) => u = st2) (fun u t => va_P D vwCl (yw ci h0 q1 q2 q3 cA u) t.heap ∧ va_K D vwCl [(cA, .int)] t ∧ va_D (va_A (yw ci h0 q1 q2 q3 cA st) sz) (yw ci h0 q1 q2 q3 cA u)) (va_A (yw ci h0 q1 q2 q3 cA st) sz)) 0 0 (va_A (yw ci h0 q1 q2 q3 cA st) sz)
/-- a static method: it answers r, and touches nothing -/
def yMetS (l : Launch) (y : MethodName) (ws : List Cond) (k : Nat) (av : List Value) (f : Option Int32) : Prop :=
  ∀ (r : Int32), f = some r → ∀ sz : Nat, Met l y ws (yrm k) (va_Pc av (fun U => U.heap.size = sz)) (va_Qi (fun (r2 : Int32) (_ : Unit) => r2 = r) (fun _ _ => True) (va_A [] sz)) 0 0 (va_A [] sz)
theorem ycallI {y : MethodName} {ws ws' : List Cond} {k maxL index n : Nat} {ret : Option FieldType} {bytes : ByteArray} {av : List Value} {f : St → Option (Int32 × St)} {C : String} {T : u_T} {N : Nat} {r : Int32} {st2 : St} {stk : List Value} (F : CallFix p m c cc nL s args Ts own) (hA : ∀ q, s.heap.size ≤ q → A q) (hM : yMet l D ci y ws k av f) (hT : GoodIn Ts (wsV own index C y ws)) (hw : ws = Cond.code y bytes maxL ret :: ws') (hd : y.cls = C ∧ y.cls ≠ "java/lang/invoke/MethodHandle" ∧ y.cls ≠ "java/lang/invoke/VarHandle" ∧ (parseMethodDescriptor y.desc).map (fun d => d.parameters.length) = some n) (hcl : vwCl[ci]? = some (C, T, N)) (hR : k + 1 ≤ R.frames ∧ 8 + (maxL + 11) + 30 * k ≤ R.locals) (hn : av.length = n) (hls : ls.size = nL) (w : Wd D ci h0 q1 q2 q3 cA A s st H locs) (hf : f st = some (r, st2)) (hst : stk = av.reverse ++ .ref h0 :: rest) (hroom : (rest.map fun v => v.category).sum ≤ 8) (hcs : cells ≤ R.cells ∧ slots ≤ R.slots) (hdg : decode cc pc = .ok (.invokevirtual index, 3)) (kk : ∀ (H1 : Heap) (locs1 : List Loc), Wd D ci h0 q1 q2 q3 cA A s st2 H1 locs1 → W p l e R s m args below meth c H1 locs1 cells slots Q (F0 m (pc + 3) ls (.int r :: rest))) : W p l e R s m args below meth c H locs cells slots Q (F0 m pc ls stk) := by
  have w0 := w
  obtain ⟨hK, hP, hD, hS⟩ := w
  have hFc : ∀ q, va_A (yw ci h0 q1 q2 q3 cA st) H.size q → A q := va_free hD hS hA [0, 1, 2, 3] rfl
  refine va_calli (va_runV (As := av) (rest := rest) F (hM h0 q1 q2 q3 cA H.size st st2 r hf) (cwV n F.2.2.2.2 hT hw rfl rfl hd hR) ⟨fun a U g mk q => by obtain ⟨q0, q1, qP, qK, qD⟩ := q; exact ⟨q0, q1, qP, va_K.moved (u := U) (U := U.calling g mk a) (Vm.Alike.refl U.vm) qK, qD⟩, va_recv hK hP hcl (q0 := 0) rfl, fun U hU hW => ⟨rfl, by rw [hU], by rw [hU]; exact hP, va_K.moved hW.alike hK, hD.weaken (fun _ _ _ _ => trivial)⟩⟩ rfl hn hls hst (lv_room hroom) hdg ⟨hcs.1, hcs.2⟩) hS (fun q _ h => hFc q h) hFc (fun r2 u t H1 locs1 ht hvm hw hB hz1 hk1 hS => ?_)
  obtain ⟨rfl, rfl⟩ := hw
  obtain ⟨hP1, hK1, hD1⟩ := hB
  rw [ht] at hP1
  obtain ⟨hP, hD⟩ := va_join (wr := []) hP hD [0, 1, 2, 3] [] rfl rfl (by decide) (by decide) hk1 hFc hP1 hD1
  exact kk H1 locs1 ⟨hK, hP, hD, hS⟩
theorem ycallV {y : MethodName} {ws ws' : List Cond} {k maxL index n : Nat} {ret : Option FieldType} {bytes : ByteArray} {av : List Value} {f : St → Option (Int32 × St)} {C : String} {T : u_T} {N : Nat} {r : Int32} {st2 : St} {stk : List Value} (F : CallFix p m c cc nL s args Ts own) (hA : ∀ q, s.heap.size ≤ q → A q) (hM : yMetV l D ci y ws k av f) (hT : GoodIn Ts (wsV own index C y ws)) (hw : ws = Cond.code y bytes maxL ret :: ws') (hd : y.cls = C ∧ y.cls ≠ "java/lang/invoke/MethodHandle" ∧ y.cls ≠ "java/lang/invoke/VarHandle" ∧ (parseMethodDescriptor y.desc).map (fun d => d.parameters.length) = some n) (hcl : vwCl[ci]? = some (C, T, N)) (hR : k + 1 ≤ R.frames ∧ 8 + (maxL + 11) + 30 * k ≤ R.locals) (hn : av.length = n) (hls : ls.size = nL) (w : Wd D ci h0 q1 q2 q3 cA A s st H locs) (hf : f st = some (r, st2)) (hst : stk = av.reverse ++ .ref h0 :: rest) (hroom : (rest.map fun v => v.category).sum ≤ 8) (hcs : cells ≤ R.cells ∧ slots ≤ R.slots) (hdg : decode cc pc = .ok (.invokevirtual index, 3)) (kk : ∀ (H1 : Heap) (locs1 : List Loc), Wd D ci h0 q1 q2 q3 cA A s st2 H1 locs1 → W p l e R s m args below meth c H1 locs1 cells slots Q (F0 m (pc + 3) ls (rest))) : W p l e R s m args below meth c H locs cells slots Q (F0 m pc ls stk) := by
  have w0 := w
  obtain ⟨hK, hP, hD, hS⟩ := w
  have hFc : ∀ q, va_A (yw ci h0 q1 q2 q3 cA st) H.size q → A q := va_free hD hS hA [0, 1, 2, 3] rfl
  refine va_callv (va_runV (As := av) (rest := rest) F (hM h0 q1 q2 q3 cA H.size st st2 r hf) (cwV n F.2.2.2.2 hT hw rfl rfl hd hR) ⟨fun a U g mk q => by obtain ⟨q0, q1, qP, qK, qD⟩ := q; exact ⟨q0, q1, qP, va_K.moved (u := U) (U := U.calling g mk a) (Vm.Alike.refl U.vm) qK, qD⟩, va_recv hK hP hcl (q0 := 0) rfl, fun U hU hW => ⟨rfl, by rw [hU], by rw [hU]; exact hP, va_K.moved hW.alike hK, hD.weaken (fun _ _ _ _ => trivial)⟩⟩ rfl hn hls hst (lv_room hroom) hdg ⟨hcs.1, hcs.2⟩) hS (fun q _ h => hFc q h) hFc (fun u t H1 locs1 ht hvm hw hB hz1 hk1 hS => ?_)
  subst hw
  obtain ⟨hP1, hK1, hD1⟩ := hB
  rw [ht] at hP1
  obtain ⟨hP, hD⟩ := va_join (wr := []) hP hD [0, 1, 2, 3] [] rfl rfl (by decide) (by decide) hk1 hFc hP1 hD1
  exact kk H1 locs1 ⟨hK, hP, hD, hS⟩
theorem ycallS {y : MethodName} {ws ws' : List Cond} {k maxL index n : Nat} {ret : Option FieldType} {bytes : ByteArray} {av : List Value} {f : Option Int32} {r : Int32} {stk : List Value} (F : CallFix p m c cc nL s args Ts own) (hA : ∀ q, s.heap.size ≤ q → A q) (hM : yMetS l y ws k av f) (hT : GoodIn Ts (va_wsS own index y ws)) (hw : ws = Cond.code y bytes maxL ret :: ws') (hd : y.cls ≠ "java/lang/invoke/MethodHandle" ∧ y.cls ≠ "java/lang/invoke/VarHandle" ∧ (parseMethodDescriptor y.desc).map (fun d => d.parameters.length) = some n) (hR : k + 1 ≤ R.frames ∧ 8 + (maxL + 11) + 30 * k ≤ R.locals) (hn : av.length = n) (hls : ls.size = nL) (hS : va_S A s.heap H locs) (hf : f = some r) (hst : stk = av.reverse ++ rest) (hroom : (rest.map fun v => v.category).sum ≤ 8) (hcs : cells ≤ R.cells ∧ slots ≤ R.slots) (hdg : decode cc pc = .ok (.invokestatic index, 3)) (kk : ∀ (H1 : Heap) (locs1 : List Loc), (∀ q, q < H.size → H1[q]? = H[q]?) → va_S A s.heap H1 locs1 → W p l e R s m args below meth c H1 locs1 cells slots Q (F0 m (pc + 3) ls (.int r :: rest))) : W p l e R s m args below meth c H locs cells slots Q (F0 m pc ls stk) := by
  have hFc : ∀ q, va_A [] H.size q → A q := fun q h => by
    rcases h with ⟨k, e, h⟩ | h
    · simp at h
    · exact hA q (Nat.le_trans hS.1 h)
  refine va_calli (va_runS (As := av) (rest := rest) F (hM r hf H.size) (va_cwS n F.2.2.2.2 hT hw rfl rfl hd hR) ⟨fun a U g mk q => q, fun U hU hW => ⟨rfl, congrArg Array.size hU⟩⟩ rfl hn hls hst (lv_room hroom) hdg ⟨hcs.1, hcs.2⟩) hS (fun q _ h => hFc q h) hFc (fun r2 u t H1 locs1 ht hvm hw hB hz1 hk1 hS => ?_)
  subst hw
  refine kk H1 locs1 (fun q hq => hk1 q hq ?_) hS
  intro h
  rcases h with ⟨k, e, h⟩ | h
  · simp at h
  · omega
theorem ycallSW {y : MethodName} {ws ws' : List Cond} {k maxL index n : Nat} {ret : Option FieldType} {bytes : ByteArray} {av : List Value} {f : Option Int32} {r : Int32} {stk : List Value} (F : CallFix p m c cc nL s args Ts own) (hA : ∀ q, s.heap.size ≤ q → A q) (hM : yMetS l y ws k av f) (hT : GoodIn Ts (va_wsS own index y ws)) (hw : ws = Cond.code y bytes maxL ret :: ws') (hd : y.cls ≠ "java/lang/invoke/MethodHandle" ∧ y.cls ≠ "java/lang/invoke/VarHandle" ∧ (parseMethodDescriptor y.desc).map (fun d => d.parameters.length) = some n) (hR : k + 1 ≤ R.frames ∧ 8 + (maxL + 11) + 30 * k ≤ R.locals) (hn : av.length = n) (hls : ls.size = nL) (w : Wd D ci h0 q1 q2 q3 cA A s st H locs) (hf : f = some r) (hst : stk = av.reverse ++ rest) (hroom : (rest.map fun v => v.category).sum ≤ 8) (hcs : cells ≤ R.cells ∧ slots ≤ R.slots) (hdg : decode cc pc = .ok (.invokestatic index, 3)) (kk : ∀ (H1 : Heap) (locs1 : List Loc), Wd D ci h0 q1 q2 q3 cA A s st H1 locs1 → W p l e R s m args below meth c H1 locs1 cells slots Q (F0 m (pc + 3) ls (.int r :: rest))) : W p l e R s m args below meth c H locs cells slots Q (F0 m pc ls stk) := by
  obtain ⟨hK, hP, hD, hS⟩ := w
  exact ycallS F hA hM hT hw hd hR hn hls hS hf hst hroom hcs hdg (fun H1 locs1 hk hS => kk H1 locs1 ⟨hK, hP.kept (fun k q hq => hk q.1 (hP k q hq).lt), hD, hS⟩)
end YB
def yRetI (D : va_G) (ci h0 q1 q2 q3 : Nat) (cA : ClassId) (p : Program) (l : Launch) (e : Env) (k : Nat) (s : State) (m : MethodId) (args : Array Value) (below : List Frame) (meth : Method) (c : Code) (cc : ByteArray) (A : Nat → Prop) (Q : State → Prop) (ret : FieldType) (r : Int32) (st2 : St) : Prop := ∀ (pc : Nat) (ls : Array Slot) (H : Heap) (locs : List Loc), decode cc pc = .ok (.ireturn, 1) → narrow ret (.int r) = .int r → Wd D ci h0 q1 q2 q3 cA A s st2 H locs → W p l e (yrm k) s m args below meth c H locs 0 0 Q (F0 m pc ls [.int r])
theorem yentI {l : Launch} {D : va_G} {ci : Nat} {y : MethodName} {ws ws' : List Cond} {k : Nat} {av : List Value} {f : St → Option (Int32 × St)} {cc : ByteArray} {nL : Nat} {ret : FieldType} (hy : plainName y.cls = true) (hw : ws = Cond.code y cc nL (some ret) :: ws') (hlen : ∀ h0 : Nat, (lg_sl (.ref h0 :: av)).length ≤ nL)
    (body : ∀ (h0 q1 q2 q3 : Nat) (cA : ClassId) (r : Int32) (st2 : St) (p : Program) (e : Env) (s : State) (m : MethodId) (args : Array Value) (below : List Frame) (meth : Method) (c : Code) (A : Nat → Prop) (Q : State → Prop), CallFix p m c cc nL s args ws y.cls → (∀ q, s.heap.size ≤ q → A q) → yRetI D ci h0 q1 q2 q3 cA p l e k s m args below meth c cc A Q ret r st2 → ∀ (st : St), f st = some (r, st2) → ∀ (H : Heap) (locs : List Loc) (ls : Array Slot), Wd D ci h0 q1 q2 q3 cA A s st H locs → lv_has ls nL (lv_args 0 (.ref h0 :: av)) → W p l e (yrm k) s m args below meth c H locs 0 0 Q (F0 m 0 ls [])) : yMet l D ci y ws k av f := by
  intro h0 q1 q2 q3 cA sz st st2 r hf
  refine Met.ofW (cc := cc) (maxL := nL) (ret := some ret) hy hw ?_
  intro p e s m args below meth c s₁ B hml hv
  obtain ⟨rfl, hsz, hP, hK, hD0⟩ := hv
  have hx := B.exec
  have hb := B.bytes
  have hr := B.returns
  have hts := atoms_spec (ws := ws) B.pre
  have hown : s.vm.findClass y.cls = some m.cls := findClass_of_methodNamed B.named
  have hlocks := B.notSynchronized
  subst hsz
  have hD := hD0.self (sz := s.heap.size)
  rw [lg_entry_eq]
  refine body h0 q1 q2 q3 cA r st2 p e s m _ below meth c (va_A (yw ci h0 q1 q2 q3 cA st) s.heap.size) _ ⟨hx, hb, hml, hown, hts⟩ (fun q h => Or.inr h) ?_ st hf s.heap [] _ ⟨hK, hP, hD, va_S.rf⟩ (lv_entry (.ref h0 :: av) (n := nL) (hlen h0))
  intro pc ls H locs hdg hnr w
  exact W.zret (ty := ret) hx hb hr hnr (fun t ht hW => ⟨⟨r, st2, rfl, ⟨rfl, rfl⟩, by rw [ht]; exact w.2.1, va_K.moved hW.alike w.1, w.2.2.1⟩, w.2.2.2.F ht⟩) w.2.2.2.2.2 hdg
def yRetV (D : va_G) (ci h0 q1 q2 q3 : Nat) (cA : ClassId) (p : Program) (l : Launch) (e : Env) (k : Nat) (s : State) (m : MethodId) (args : Array Value) (below : List Frame) (meth : Method) (c : Code) (cc : ByteArray) (A : Nat → Prop) (Q : State → Prop) (r : Int32) (st2 : St) : Prop := ∀ (pc : Nat) (ls : Array Slot) (H : Heap) (locs : List Loc), decode cc pc = .ok (.return_, 1) → Wd D ci h0 q1 q2 q3 cA A s st2 H locs → W p l e (yrm k) s m args below meth c H locs 0 0 Q (F0 m pc ls [])
theorem yentV {l : Launch} {D : va_G} {ci : Nat} {y : MethodName} {ws ws' : List Cond} {k : Nat} {av : List Value} {f : St → Option (Int32 × St)} {cc : ByteArray} {nL : Nat} (hy : plainName y.cls = true) (hw : ws = Cond.code y cc nL (none) :: ws') (hlen : ∀ h0 : Nat, (lg_sl (.ref h0 :: av)).length ≤ nL)
    (body : ∀ (h0 q1 q2 q3 : Nat) (cA : ClassId) (r : Int32) (st2 : St) (p : Program) (e : Env) (s : State) (m : MethodId) (args : Array Value) (below : List Frame) (meth : Method) (c : Code) (A : Nat → Prop) (Q : State → Prop), CallFix p m c cc nL s args ws y.cls → (∀ q, s.heap.size ≤ q → A q) → yRetV D ci h0 q1 q2 q3 cA p l e k s m args below meth c cc A Q r st2 → ∀ (st : St), f st = some (r, st2) → ∀ (H : Heap) (locs : List Loc) (ls : Array Slot), Wd D ci h0 q1 q2 q3 cA A s st H locs → lv_has ls nL (lv_args 0 (.ref h0 :: av)) → W p l e (yrm k) s m args below meth c H locs 0 0 Q (F0 m 0 ls [])) : yMetV l D ci y ws k av f := by
  intro h0 q1 q2 q3 cA sz st st2 r hf
  refine Met.ofW (cc := cc) (maxL := nL) (ret := none) hy hw ?_
  intro p e s m args below meth c s₁ B hml hv
  obtain ⟨rfl, hsz, hP, hK, hD0⟩ := hv
  have hx := B.exec
  have hb := B.bytes
  have hr := B.returns
  have hts := atoms_spec (ws := ws) B.pre
  have hown : s.vm.findClass y.cls = some m.cls := findClass_of_methodNamed B.named
  have hlocks := B.notSynchronized
  subst hsz
  have hD := hD0.self (sz := s.heap.size)
  rw [lg_entry_eq]
  refine body h0 q1 q2 q3 cA r st2 p e s m _ below meth c (va_A (yw ci h0 q1 q2 q3 cA st) s.heap.size) _ ⟨hx, hb, hml, hown, hts⟩ (fun q h => Or.inr h) ?_ st hf s.heap [] _ ⟨hK, hP, hD, va_S.rf⟩ (lv_entry (.ref h0 :: av) (n := nL) (hlen h0))
  intro pc ls H locs hdg w
  exact W.vret hx hb hr (fun t ht hW => ⟨⟨st2, rfl, rfl, by rw [ht]; exact w.2.1, va_K.moved hW.alike w.1, w.2.2.1⟩, w.2.2.2.F ht⟩) w.2.2.2.2.2 hdg
def yRetS (p : Program) (l : Launch) (e : Env) (k : Nat) (s : State) (m : MethodId) (args : Array Value) (below : List Frame) (meth : Method) (c : Code) (cc : ByteArray) (A : Nat → Prop) (Q : State → Prop) (ret : FieldType) (r : Int32) : Prop := ∀ (pc : Nat) (ls : Array Slot) (H : Heap) (locs : List Loc), decode cc pc = .ok (.ireturn, 1) → narrow ret (.int r) = .int r → va_S A s.heap H locs → W p l e (yrm k) s m args below meth c H locs 0 0 Q (F0 m pc ls [.int r])
theorem yentS {l : Launch} {y : MethodName} {ws ws' : List Cond} {k : Nat} {av : List Value} {f : Option Int32} {cc : ByteArray} {nL : Nat} {ret : FieldType} (hy : plainName y.cls = true) (hw : ws = Cond.code y cc nL (some ret) :: ws') (hlen : (lg_sl av).length ≤ nL)
    (body : ∀ (r : Int32) (p : Program) (e : Env) (s : State) (m : MethodId) (args : Array Value) (below : List Frame) (meth : Method) (c : Code) (A : Nat → Prop) (Q : State → Prop), CallFix p m c cc nL s args ws y.cls → (∀ q, s.heap.size ≤ q → A q) → yRetS p l e k s m args below meth c cc A Q ret r → f = some r → ∀ (H : Heap) (locs : List Loc) (ls : Array Slot), va_S A s.heap H locs → lv_has ls nL (lv_args 0 av) → W p l e (yrm k) s m args below meth c H locs 0 0 Q (F0 m 0 ls [])) : yMetS l y ws k av f := by
  intro r hf sz
  refine Met.ofW (cc := cc) (maxL := nL) (ret := some ret) hy hw ?_
  intro p e s m args below meth c s₁ B hml hv
  obtain ⟨rfl, hsz⟩ := hv
  have hx := B.exec
  have hb := B.bytes
  have hr := B.returns
  have hts := atoms_spec (ws := ws) B.pre
  have hown : s.vm.findClass y.cls = some m.cls := findClass_of_methodNamed B.named
  have hlocks := B.notSynchronized
  subst hsz
  rw [lg_entry_eq]
  refine body r p e s m _ below meth c (va_A [] s.heap.size) _ ⟨hx, hb, hml, hown, hts⟩ (fun q h => Or.inr h) ?_ hf s.heap [] _ va_S.rf (lv_entry av (n := nL) hlen)
  intro pc ls H locs hdg hnr hS
  exact W.zret (ty := ret) hx hb hr hnr (fun t ht hW => ⟨⟨r, (), rfl, rfl, trivial⟩, hS.F ht⟩) hS.2.2 hdg
section YR
variable {p : Program} {l : Launch} {e : Env} {k : Nat} {s : State} {m : MethodId} {args : Array Value} {below : List Frame} {meth : Method} {c : Code} {H : Heap} {locs : List Loc} {Q : State → Prop} {cc : ByteArray} {pc : Nat} {ls : Array Slot} {D : va_G} {ci h0 q1 q2 q3 : Nat} {cA : ClassId} {A : Nat → Prop} {st st2 : St} {ret : FieldType} {r v : Int32}
theorem yret (hret : yRetI D ci h0 q1 q2 q3 cA p l e k s m args below meth c cc A Q ret r st2) (hf : some (v, st) = some (r, st2)) (hnr : narrow ret (.int v) = .int v) (w : Wd D ci h0 q1 q2 q3 cA A s st H locs) (hdg : decode cc pc = .ok (.ireturn, 1)) : W p l e (yrm k) s m args below meth c H locs 0 0 Q (F0 m pc ls [.int v]) := by
  obtain ⟨rfl, rfl⟩ := Prod.mk.inj (Option.some.inj hf)
  exact hret pc ls H locs hdg hnr w
theorem yretV (hret : yRetV D ci h0 q1 q2 q3 cA p l e k s m args below meth c cc A Q r st2) (hf : some (v, st) = some (r, st2)) (w : Wd D ci h0 q1 q2 q3 cA A s st H locs) (hdg : decode cc pc = .ok (.return_, 1)) : W p l e (yrm k) s m args below meth c H locs 0 0 Q (F0 m pc ls []) := by
  obtain ⟨rfl, rfl⟩ := Prod.mk.inj (Option.some.inj hf)
  exact hret pc ls H locs hdg w
theorem yretS (hret : yRetS p l e k s m args below meth c cc A Q ret r) (hf : some v = some r) (hnr : narrow ret (.int v) = .int v) (hS : va_S A s.heap H locs) (hdg : decode cc pc = .ok (.ireturn, 1)) : W p l e (yrm k) s m args below meth c H locs 0 0 Q (F0 m pc ls [.int v]) := by
  obtain rfl := Option.some.inj hf
  exact hret pc ls H locs hdg hnr hS
end YR
