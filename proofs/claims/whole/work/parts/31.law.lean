/-! THE CLAIM OUT OF ONE WALK OF THE LAW'S BODY. Your part is whole_start (and what it stands on); all else here is the same for every law, but numbers. -/
def R_law : String := "YardHoldsLaw"
def lw_P (b : Addr) (xs : List Int32) (args : Array Value) (s : State) : Prop := args = #[.ref b] ∧ s.IntsAt b xs ∧ xs.length ≤ 2048 ∧ (Jvm.Cond.and given_1 narrow_1).before args s = true
def lw_Q (_ : Array Value) (s : State) (o : Outcome) (t : State) : Prop := o = .returned (some (.int 1)) ∧ Framed s o t [] 8 242
def lw_Z (below : List Frame) (a : Array Value) (s : State) : State → Prop := fun t => ∃ o, t.status = .running ∧ Ended t below o ∧ lw_Q a s o t
/-- the law's own end, with 1 on the stack, nothing written that was there before, its room as the claim has it -/
theorem lw_ret {p : Program} {l : Launch} {e : Env} {s : State} {m : MethodId} {below : List Frame} {meth : Method} {c : Code} {b : Nat} (hx : p.tables.exec = Jvm.exec) (hb : c.code = code) (hr : meth.sig.returnType = ret) (hlocks : meth.locks = false) {pc : Nat} {H : Heap} {ls : Array Slot} (hdg : decode code pc = .ok (.ireturn, 1)) : W p l e room_1 s m #[Value.ref b] below meth c H [] 8 242 (lw_Z below #[Value.ref b] s) (F0 m pc ls [.int 1]) := by
  intro T hT X
  obtain ⟨fs, hret, hrun, hended, hW, hframe⟩ := X.leave (v := some (.int 1)) (hlocks := hlocks) (fun h => by rw [hr] at h; cases h)
  have hmeth' : T.vm.method? m = some meth := X.method'
  refine ⟨T.setFrames fs, ?_, .returned (some (.int 1)), hrun, hended, rfl, ⟨_, rfl⟩, hW, hframe⟩
  jvm_step X.here [X.here.top, hx, hb, hdg, hmeth', hr, ret, narrow_b1]
  (try refine ⟨rfl, ?_⟩); (try refine ⟨rfl, ?_⟩)
  first | (intro acts; rw [hret _ acts rfl rfl rfl]) | rw [hret _ _ rfl rfl rfl]
  exact Steps.refl _
/-- what holds at the law's entry: the machine, the code, the tables' words (any of lw_tbl by 'hts w (by decide +kernel)'), the script of L ints xs at the cell b, what the Statement gives of the start (any of its parts by flat_of_before) -/
def lw_At (p : Program) (s : State) (m : MethodId) (meth : Method) (c : Code) (b L : Nat) (xs : Nat → Int32) : Prop :=
  p.tables.exec = Jvm.exec ∧ c.code = code ∧ meth.sig.returnType = ret ∧ c.maxLocals = 4 ∧ s.vm.findClass R_law = some m.cls ∧ (∀ w ∈ lw_tbl, w.before #[Value.ref b] s = true) ∧ va_X b L xs s s.heap ∧ b < s.heap.size ∧ meth.locks = false ∧ (Jvm.Cond.and given_1 narrow_1).before #[Value.ref b] s = true
set_option maxHeartbeats 4000000 in
set_option maxRecDepth 100000 in
/-- THE LAW'S LOOP: at its head both objects hold one state, which keeps the invariant -/
theorem law_loop {p : Program} {l : Launch} {e : Env} {s : State} {m : MethodId} {below : List Frame} {meth : Method} {c : Code} {D : va_G} {b L : Nat} {xs : Nat → Int32} (hL : L ≤ 2048) (C0 : lw_At p s m meth c b L xs) {x0 x1 x2 x3 m0 m1 m2 m3 : Nat} {cA cB : ClassId} (hK0 : va_K D vwCl [(cA, .int)] s) (hK1 : va_K D vwCl [(cB, .int)] s) :
    ∀ (n i : Nat), i ≤ L → L + 1 ≤ i + n → ∀ (st : St), Inv st → ∀ (H : Heap) (locs : List Loc), va_P D vwCl (yw 0 x0 x1 x2 x3 cA st ++ yw 1 m0 m1 m2 m3 cB st) H → va_D (fun q : Nat => s.heap.size ≤ q) (yw 0 x0 x1 x2 x3 cA st ++ yw 1 m0 m1 m2 m3 cB st) → va_S (fun q : Nat => s.heap.size ≤ q) s.heap H locs → ∀ (ls : Array Slot), lv_has ls 4 [(0, .ref b), (1, .ref x0), (2, .ref m0), (3, .int (nI i))] → W p l e room_1 s m #[Value.ref b] below meth c H locs 8 242 (lw_Z below #[Value.ref b] s) (F0 m 18 ls []) := by
  obtain ⟨hx, hb, hr, hml, hown, hts0, hX, hbl, hlocks, hgv⟩ := C0
  have hts : ∀ w ∈ wsL_law, w.before #[Value.ref b] s = true := fun w h => hts0 w (wsL_law_in w h)
  have hown : s.vm.findClass RL = some m.cls := hown
  have F : CallFix p m c cL_law 4 s #[Value.ref b] wsL_law RL := ⟨hx, hb, hml, hown, hts⟩
  have hA : ∀ q : Nat, s.heap.size ≤ q → (fun q : Nat => s.heap.size ≤ q) q := fun _ h => h
  have hbA : ¬ (fun q : Nat => s.heap.size ≤ q) b := Nat.not_le.mpr hbl
  intro n
  induction n with
  | zero =>
    intro i h1 h2
    exact absurd h2 (by omega)
  | succ n ih =>
    intro i hi hin st hI H locs hP hD hS ls hl
    refine lv_iload_n hx hb dL_law_18 rfl (lv_at hl 3 rfl) ?_
    refine lv_aload_n hx hb dL_law_19 rfl (lv_at hl 0 rfl) ?_
    refine va_slen hx hb hX hbl hbA hS dL_law_20 ?_
    refine lv_iconst (v := 4) hx hb dL_law_21 (by decide) ?_
    refine lv_isub hx hb dL_law_22 ?_
    refine lv_icmp_gt (tgt := 605) hx hb dL_law_23 (by decide) (fun k_0 => ?_) (fun k_0 => ?_)
    · refine lv_iconst (v := 1) hx hb dL_law_605 (by decide) ?_
      refine va_forget (fun q hq => hS.2.2 q hq) ?_
      exact lw_ret hx hb hr hlocks dL_law_606
    · have hlt : i + 4 ≤ L := by
        have e1 : (nI L - nI 4).toInt = (L : Int) - (4 : Nat) := pk_sub_toInt (by omega) (by decide)
        have e2 : ¬ (nI L - nI 4).toInt < (nI i).toInt := fun h => k_0 (Int32.lt_iff_toInt_lt.mpr h)
        rw [e1, nI_toInt (by omega)] at e2
        omega
      have h_0 : vp_in (nI i) L := vp_in_nI (by omega) (by omega)
      have h_1 : vp_in (nI i + 1) L := by rw [nI_1]; exact vp_in_nI (by omega) (by omega)
      have h_2 : vp_in (nI i + 2) L := by rw [show (2 : Int32) = nI 2 from rfl, nI_add]; exact vp_in_nI (by omega) (by omega)
      have h_3 : vp_in (nI i + 3) L := by rw [show (3 : Int32) = nI 3 from rfl, nI_add]; exact vp_in_nI (by omega) (by omega)
      obtain ⟨w1, ew1⟩ : ∃ y, y = xs (nI i + 1).toNatClampNeg := ⟨_, rfl⟩
      obtain ⟨w2, ew2⟩ : ∃ y, y = xs (nI i + 2).toNatClampNeg := ⟨_, rfl⟩
      obtain ⟨w3, ew3⟩ : ∃ y, y = xs (nI i + 3).toNatClampNeg := ⟨_, rfl⟩
      have fin : ∀ (t : St) (H : Heap) (locs : List Loc) (ls : Array Slot), Inv t → va_P D vwCl (yw 0 x0 x1 x2 x3 cA t ++ yw 1 m0 m1 m2 m3 cB t) H → va_D (fun q : Nat => s.heap.size ≤ q) (yw 0 x0 x1 x2 x3 cA t ++ yw 1 m0 m1 m2 m3 cB t) → va_S (fun q : Nat => s.heap.size ≤ q) s.heap H locs → lv_has ls 4 [(0, .ref b), (1, .ref x0), (2, .ref m0), (3, .int (nI i))] → W p l e room_1 s m #[Value.ref b] below meth c H locs 8 242 (lw_Z below #[Value.ref b] s) (F0 m 599 ls []) := by
        intro t H locs ls hIt hP hD hS hl
        refine lv_iinc (v := nI (i + 4)) (lv' := [(3, .int (nI (i + 4))), (0, .ref b), (1, .ref x0), (2, .ref m0)]) hx hb dL_law_599 hl (k := 3) rfl (nI_add i 4) (by decide) rfl (fun ls hl => ?_)
        refine lv_goto (tgt := 18) hx hb dL_law_602 (by decide) ?_
        exact ih (i + 4) (by omega) (by omega) t hIt H locs hP hD hS ls (lv_sub hl [1, 2, 3, 0] rfl)
      refine lv_aload_n hx hb dL_law_26 rfl (lv_at hl 0 rfl) ?_
      refine lv_iload_n hx hb dL_law_27 rfl (lv_at hl 3 rfl) ?_
      refine va_sld hx hb hX hbl hbA hS h_0 dL_law_28 ?_
      refine lv_bipush (v := 15) hx hb dL_law_29 (by decide) ?_
      refine lv_iand hx hb dL_law_31 ?_
      generalize xs (nI i).toNatClampNeg &&& 15 = z
      by_cases k_1 : z = 0
      · refine lv_tableIn (off := 68) (tgt := 100) hx hb dL_law_32 (by rw [k_1]; decide) (by rw [k_1]; decide) (by rw [k_1]; decide) (by decide) ?_
        obtain ⟨r, t, hf0, hf1, hIt⟩ := pu_lay w1 w2 hI
        refine lv_aload_n hx hb dL_law_100 rfl (lv_at hl 1 rfl) ?_
        refine lv_aload_n hx hb dL_law_101 rfl (lv_at hl 0 rfl) ?_
        refine lv_iload_n hx hb dL_law_102 rfl (lv_at hl 3 rfl) ?_
        refine lv_iconst (v := 1) hx hb dL_law_103 (by decide) ?_
        refine lv_iadd hx hb dL_law_104 ?_
        refine va_sld hx hb hX hbl hbA hS h_1 dL_law_105 ?_
        rw [← ew1]
        refine lv_aload_n hx hb dL_law_106 rfl (lv_at hl 0 rfl) ?_
        refine lv_iload_n hx hb dL_law_107 rfl (lv_at hl 3 rfl) ?_
        refine lv_iconst (v := 2) hx hb dL_law_108 (by decide) ?_
        refine lv_iadd hx hb dL_law_109 ?_
        refine va_sld hx hb hX hbl hbA hS h_2 dL_law_110 ?_
        rw [← ew2]
        refine ycallL (n := 2) (r := r) (st2 := t) (rest := []) F hA (c0_lay l D w1 w2) gL_law_X0_lay rfl (by decide +kernel) rfl ⟨Nat.le_of_ble_eq_true rfl, Nat.le_of_ble_eq_true rfl⟩ rfl hl.1 hK0 hP hD hS hf0 rfl (Nat.le_of_ble_eq_true rfl) ⟨Nat.le_of_ble_eq_true rfl, Nat.le_of_ble_eq_true rfl⟩ dL_law_111 (fun H locs hP hD hS => ?_)
        refine lv_aload_n hx hb dL_law_114 rfl (lv_at hl 2 rfl) ?_
        refine lv_aload_n hx hb dL_law_115 rfl (lv_at hl 0 rfl) ?_
        refine lv_iload_n hx hb dL_law_116 rfl (lv_at hl 3 rfl) ?_
        refine lv_iconst (v := 1) hx hb dL_law_117 (by decide) ?_
        refine lv_iadd hx hb dL_law_118 ?_
        refine va_sld hx hb hX hbl hbA hS h_1 dL_law_119 ?_
        rw [← ew1]
        refine lv_aload_n hx hb dL_law_120 rfl (lv_at hl 0 rfl) ?_
        refine lv_iload_n hx hb dL_law_121 rfl (lv_at hl 3 rfl) ?_
        refine lv_iconst (v := 2) hx hb dL_law_122 (by decide) ?_
        refine lv_iadd hx hb dL_law_123 ?_
        refine va_sld hx hb hX hbl hbA hS h_2 dL_law_124 ?_
        rw [← ew2]
        refine ycallL (n := 2) (r := r) (st2 := t) (rest := [.int r]) F hA (c1_lay l D w1 w2) gL_law_X1_lay rfl (by decide +kernel) rfl ⟨Nat.le_of_ble_eq_true rfl, Nat.le_of_ble_eq_true rfl⟩ rfl hl.1 hK1 hP hD hS hf1 rfl (Nat.le_of_ble_eq_true rfl) ⟨Nat.le_of_ble_eq_true rfl, Nat.le_of_ble_eq_true rfl⟩ dL_law_125 (fun H locs hP hD hS => ?_)
        refine lv_icmp_eq (tgt := 599) hx hb dL_law_128 (by decide) (fun _ => ?_) (fun kq => absurd rfl kq)
        exact fin t H locs ls hIt hP hD hS hl
      by_cases k_2 : z = 1
      · refine lv_tableIn (off := 101) (tgt := 133) hx hb dL_law_32 (by rw [k_2]; decide) (by rw [k_2]; decide) (by rw [k_2]; decide) (by decide) ?_
        obtain ⟨r, t, hf0, hf1, hIt⟩ := pu_lift w1 hI
        refine lv_aload_n hx hb dL_law_133 rfl (lv_at hl 1 rfl) ?_
        refine lv_aload_n hx hb dL_law_134 rfl (lv_at hl 0 rfl) ?_
        refine lv_iload_n hx hb dL_law_135 rfl (lv_at hl 3 rfl) ?_
        refine lv_iconst (v := 1) hx hb dL_law_136 (by decide) ?_
        refine lv_iadd hx hb dL_law_137 ?_
        refine va_sld hx hb hX hbl hbA hS h_1 dL_law_138 ?_
        rw [← ew1]
        refine ycallL (n := 1) (r := r) (st2 := t) (rest := []) F hA (c0_lift l D w1) gL_law_X0_lift rfl (by decide +kernel) rfl ⟨Nat.le_of_ble_eq_true rfl, Nat.le_of_ble_eq_true rfl⟩ rfl hl.1 hK0 hP hD hS hf0 rfl (Nat.le_of_ble_eq_true rfl) ⟨Nat.le_of_ble_eq_true rfl, Nat.le_of_ble_eq_true rfl⟩ dL_law_139 (fun H locs hP hD hS => ?_)
        refine lv_aload_n hx hb dL_law_142 rfl (lv_at hl 2 rfl) ?_
        refine lv_aload_n hx hb dL_law_143 rfl (lv_at hl 0 rfl) ?_
        refine lv_iload_n hx hb dL_law_144 rfl (lv_at hl 3 rfl) ?_
        refine lv_iconst (v := 1) hx hb dL_law_145 (by decide) ?_
        refine lv_iadd hx hb dL_law_146 ?_
        refine va_sld hx hb hX hbl hbA hS h_1 dL_law_147 ?_
        rw [← ew1]
        refine ycallL (n := 1) (r := r) (st2 := t) (rest := [.int r]) F hA (c1_lift l D w1) gL_law_X1_lift rfl (by decide +kernel) rfl ⟨Nat.le_of_ble_eq_true rfl, Nat.le_of_ble_eq_true rfl⟩ rfl hl.1 hK1 hP hD hS hf1 rfl (Nat.le_of_ble_eq_true rfl) ⟨Nat.le_of_ble_eq_true rfl, Nat.le_of_ble_eq_true rfl⟩ dL_law_148 (fun H locs hP hD hS => ?_)
        refine lv_icmp_eq (tgt := 599) hx hb dL_law_151 (by decide) (fun _ => ?_) (fun kq => absurd rfl kq)
        exact fin t H locs ls hIt hP hD hS hl
      by_cases k_3 : z = 2
      · refine lv_tableIn (off := 124) (tgt := 156) hx hb dL_law_32 (by rw [k_3]; decide) (by rw [k_3]; decide) (by rw [k_3]; decide) (by decide) ?_
        obtain ⟨r, t, hf0, hf1, hIt⟩ := pu_couple w1 w2 hI
        refine lv_aload_n hx hb dL_law_156 rfl (lv_at hl 1 rfl) ?_
        refine lv_aload_n hx hb dL_law_157 rfl (lv_at hl 0 rfl) ?_
        refine lv_iload_n hx hb dL_law_158 rfl (lv_at hl 3 rfl) ?_
        refine lv_iconst (v := 1) hx hb dL_law_159 (by decide) ?_
        refine lv_iadd hx hb dL_law_160 ?_
        refine va_sld hx hb hX hbl hbA hS h_1 dL_law_161 ?_
        rw [← ew1]
        refine lv_aload_n hx hb dL_law_162 rfl (lv_at hl 0 rfl) ?_
        refine lv_iload_n hx hb dL_law_163 rfl (lv_at hl 3 rfl) ?_
        refine lv_iconst (v := 2) hx hb dL_law_164 (by decide) ?_
        refine lv_iadd hx hb dL_law_165 ?_
        refine va_sld hx hb hX hbl hbA hS h_2 dL_law_166 ?_
        rw [← ew2]
        refine ycallL (n := 2) (r := r) (st2 := t) (rest := []) F hA (c0_couple l D w1 w2) gL_law_X0_couple rfl (by decide +kernel) rfl ⟨Nat.le_of_ble_eq_true rfl, Nat.le_of_ble_eq_true rfl⟩ rfl hl.1 hK0 hP hD hS hf0 rfl (Nat.le_of_ble_eq_true rfl) ⟨Nat.le_of_ble_eq_true rfl, Nat.le_of_ble_eq_true rfl⟩ dL_law_167 (fun H locs hP hD hS => ?_)
        refine lv_aload_n hx hb dL_law_170 rfl (lv_at hl 2 rfl) ?_
        refine lv_aload_n hx hb dL_law_171 rfl (lv_at hl 0 rfl) ?_
        refine lv_iload_n hx hb dL_law_172 rfl (lv_at hl 3 rfl) ?_
        refine lv_iconst (v := 1) hx hb dL_law_173 (by decide) ?_
        refine lv_iadd hx hb dL_law_174 ?_
        refine va_sld hx hb hX hbl hbA hS h_1 dL_law_175 ?_
        rw [← ew1]
        refine lv_aload_n hx hb dL_law_176 rfl (lv_at hl 0 rfl) ?_
        refine lv_iload_n hx hb dL_law_177 rfl (lv_at hl 3 rfl) ?_
        refine lv_iconst (v := 2) hx hb dL_law_178 (by decide) ?_
        refine lv_iadd hx hb dL_law_179 ?_
        refine va_sld hx hb hX hbl hbA hS h_2 dL_law_180 ?_
        rw [← ew2]
        refine ycallL (n := 2) (r := r) (st2 := t) (rest := [.int r]) F hA (c1_couple l D w1 w2) gL_law_X1_couple rfl (by decide +kernel) rfl ⟨Nat.le_of_ble_eq_true rfl, Nat.le_of_ble_eq_true rfl⟩ rfl hl.1 hK1 hP hD hS hf1 rfl (Nat.le_of_ble_eq_true rfl) ⟨Nat.le_of_ble_eq_true rfl, Nat.le_of_ble_eq_true rfl⟩ dL_law_181 (fun H locs hP hD hS => ?_)
        refine lv_icmp_eq (tgt := 599) hx hb dL_law_184 (by decide) (fun _ => ?_) (fun kq => absurd rfl kq)
        exact fin t H locs ls hIt hP hD hS hl
      by_cases k_4 : z = 3
      · refine lv_tableIn (off := 157) (tgt := 189) hx hb dL_law_32 (by rw [k_4]; decide) (by rw [k_4]; decide) (by rw [k_4]; decide) (by decide) ?_
        obtain ⟨r, t, hf0, hf1, hIt⟩ := pu_uncouple w1 hI
        refine lv_aload_n hx hb dL_law_189 rfl (lv_at hl 1 rfl) ?_
        refine lv_aload_n hx hb dL_law_190 rfl (lv_at hl 0 rfl) ?_
        refine lv_iload_n hx hb dL_law_191 rfl (lv_at hl 3 rfl) ?_
        refine lv_iconst (v := 1) hx hb dL_law_192 (by decide) ?_
        refine lv_iadd hx hb dL_law_193 ?_
        refine va_sld hx hb hX hbl hbA hS h_1 dL_law_194 ?_
        rw [← ew1]
        refine ycallL (n := 1) (r := r) (st2 := t) (rest := []) F hA (c0_uncouple l D w1) gL_law_X0_uncouple rfl (by decide +kernel) rfl ⟨Nat.le_of_ble_eq_true rfl, Nat.le_of_ble_eq_true rfl⟩ rfl hl.1 hK0 hP hD hS hf0 rfl (Nat.le_of_ble_eq_true rfl) ⟨Nat.le_of_ble_eq_true rfl, Nat.le_of_ble_eq_true rfl⟩ dL_law_195 (fun H locs hP hD hS => ?_)
        refine lv_aload_n hx hb dL_law_198 rfl (lv_at hl 2 rfl) ?_
        refine lv_aload_n hx hb dL_law_199 rfl (lv_at hl 0 rfl) ?_
        refine lv_iload_n hx hb dL_law_200 rfl (lv_at hl 3 rfl) ?_
        refine lv_iconst (v := 1) hx hb dL_law_201 (by decide) ?_
        refine lv_iadd hx hb dL_law_202 ?_
        refine va_sld hx hb hX hbl hbA hS h_1 dL_law_203 ?_
        rw [← ew1]
        refine ycallL (n := 1) (r := r) (st2 := t) (rest := [.int r]) F hA (c1_uncouple l D w1) gL_law_X1_uncouple rfl (by decide +kernel) rfl ⟨Nat.le_of_ble_eq_true rfl, Nat.le_of_ble_eq_true rfl⟩ rfl hl.1 hK1 hP hD hS hf1 rfl (Nat.le_of_ble_eq_true rfl) ⟨Nat.le_of_ble_eq_true rfl, Nat.le_of_ble_eq_true rfl⟩ dL_law_204 (fun H locs hP hD hS => ?_)
        refine lv_icmp_eq (tgt := 599) hx hb dL_law_207 (by decide) (fun _ => ?_) (fun kq => absurd rfl kq)
        exact fin t H locs ls hIt hP hD hS hl
      by_cases k_5 : z = 4
      · refine lv_tableIn (off := 180) (tgt := 212) hx hb dL_law_32 (by rw [k_5]; decide) (by rw [k_5]; decide) (by rw [k_5]; decide) (by decide) ?_
        obtain ⟨r, t, hf0, hf1, hIt⟩ := pu_shunt w1 w2 w3 hI
        refine lv_aload_n hx hb dL_law_212 rfl (lv_at hl 1 rfl) ?_
        refine lv_aload_n hx hb dL_law_213 rfl (lv_at hl 0 rfl) ?_
        refine lv_iload_n hx hb dL_law_214 rfl (lv_at hl 3 rfl) ?_
        refine lv_iconst (v := 1) hx hb dL_law_215 (by decide) ?_
        refine lv_iadd hx hb dL_law_216 ?_
        refine va_sld hx hb hX hbl hbA hS h_1 dL_law_217 ?_
        rw [← ew1]
        refine lv_aload_n hx hb dL_law_218 rfl (lv_at hl 0 rfl) ?_
        refine lv_iload_n hx hb dL_law_219 rfl (lv_at hl 3 rfl) ?_
        refine lv_iconst (v := 2) hx hb dL_law_220 (by decide) ?_
        refine lv_iadd hx hb dL_law_221 ?_
        refine va_sld hx hb hX hbl hbA hS h_2 dL_law_222 ?_
        rw [← ew2]
        refine lv_aload_n hx hb dL_law_223 rfl (lv_at hl 0 rfl) ?_
        refine lv_iload_n hx hb dL_law_224 rfl (lv_at hl 3 rfl) ?_
        refine lv_iconst (v := 3) hx hb dL_law_225 (by decide) ?_
        refine lv_iadd hx hb dL_law_226 ?_
        refine va_sld hx hb hX hbl hbA hS h_3 dL_law_227 ?_
        rw [← ew3]
        refine ycallL (n := 3) (r := r) (st2 := t) (rest := []) F hA (c0_shunt l D w1 w2 w3) gL_law_X0_shunt rfl (by decide +kernel) rfl ⟨Nat.le_of_ble_eq_true rfl, Nat.le_of_ble_eq_true rfl⟩ rfl hl.1 hK0 hP hD hS hf0 rfl (Nat.le_of_ble_eq_true rfl) ⟨Nat.le_of_ble_eq_true rfl, Nat.le_of_ble_eq_true rfl⟩ dL_law_228 (fun H locs hP hD hS => ?_)
        refine lv_aload_n hx hb dL_law_231 rfl (lv_at hl 2 rfl) ?_
        refine lv_aload_n hx hb dL_law_232 rfl (lv_at hl 0 rfl) ?_
        refine lv_iload_n hx hb dL_law_233 rfl (lv_at hl 3 rfl) ?_
        refine lv_iconst (v := 1) hx hb dL_law_234 (by decide) ?_
        refine lv_iadd hx hb dL_law_235 ?_
        refine va_sld hx hb hX hbl hbA hS h_1 dL_law_236 ?_
        rw [← ew1]
        refine lv_aload_n hx hb dL_law_237 rfl (lv_at hl 0 rfl) ?_
        refine lv_iload_n hx hb dL_law_238 rfl (lv_at hl 3 rfl) ?_
        refine lv_iconst (v := 2) hx hb dL_law_239 (by decide) ?_
        refine lv_iadd hx hb dL_law_240 ?_
        refine va_sld hx hb hX hbl hbA hS h_2 dL_law_241 ?_
        rw [← ew2]
        refine lv_aload_n hx hb dL_law_242 rfl (lv_at hl 0 rfl) ?_
        refine lv_iload_n hx hb dL_law_243 rfl (lv_at hl 3 rfl) ?_
        refine lv_iconst (v := 3) hx hb dL_law_244 (by decide) ?_
        refine lv_iadd hx hb dL_law_245 ?_
        refine va_sld hx hb hX hbl hbA hS h_3 dL_law_246 ?_
        rw [← ew3]
        refine ycallL (n := 3) (r := r) (st2 := t) (rest := [.int r]) F hA (c1_shunt l D w1 w2 w3) gL_law_X1_shunt rfl (by decide +kernel) rfl ⟨Nat.le_of_ble_eq_true rfl, Nat.le_of_ble_eq_true rfl⟩ rfl hl.1 hK1 hP hD hS hf1 rfl (Nat.le_of_ble_eq_true rfl) ⟨Nat.le_of_ble_eq_true rfl, Nat.le_of_ble_eq_true rfl⟩ dL_law_247 (fun H locs hP hD hS => ?_)
        refine lv_icmp_eq (tgt := 599) hx hb dL_law_250 (by decide) (fun _ => ?_) (fun kq => absurd rfl kq)
        exact fin t H locs ls hIt hP hD hS hl
      by_cases k_6 : z = 5
      · refine lv_tableIn (off := 223) (tgt := 255) hx hb dL_law_32 (by rw [k_6]; decide) (by rw [k_6]; decide) (by rw [k_6]; decide) (by decide) ?_
        obtain ⟨r, t, hf0, hf1, hIt⟩ := pu_sweep w1 w2 w3 hI
        refine lv_aload_n hx hb dL_law_255 rfl (lv_at hl 1 rfl) ?_
        refine lv_aload_n hx hb dL_law_256 rfl (lv_at hl 0 rfl) ?_
        refine lv_iload_n hx hb dL_law_257 rfl (lv_at hl 3 rfl) ?_
        refine lv_iconst (v := 1) hx hb dL_law_258 (by decide) ?_
        refine lv_iadd hx hb dL_law_259 ?_
        refine va_sld hx hb hX hbl hbA hS h_1 dL_law_260 ?_
        rw [← ew1]
        refine lv_aload_n hx hb dL_law_261 rfl (lv_at hl 0 rfl) ?_
        refine lv_iload_n hx hb dL_law_262 rfl (lv_at hl 3 rfl) ?_
        refine lv_iconst (v := 2) hx hb dL_law_263 (by decide) ?_
        refine lv_iadd hx hb dL_law_264 ?_
        refine va_sld hx hb hX hbl hbA hS h_2 dL_law_265 ?_
        rw [← ew2]
        refine lv_aload_n hx hb dL_law_266 rfl (lv_at hl 0 rfl) ?_
        refine lv_iload_n hx hb dL_law_267 rfl (lv_at hl 3 rfl) ?_
        refine lv_iconst (v := 3) hx hb dL_law_268 (by decide) ?_
        refine lv_iadd hx hb dL_law_269 ?_
        refine va_sld hx hb hX hbl hbA hS h_3 dL_law_270 ?_
        rw [← ew3]
        refine ycallL (n := 3) (r := r) (st2 := t) (rest := []) F hA (c0_sweep l D w1 w2 w3) gL_law_X0_sweep rfl (by decide +kernel) rfl ⟨Nat.le_of_ble_eq_true rfl, Nat.le_of_ble_eq_true rfl⟩ rfl hl.1 hK0 hP hD hS hf0 rfl (Nat.le_of_ble_eq_true rfl) ⟨Nat.le_of_ble_eq_true rfl, Nat.le_of_ble_eq_true rfl⟩ dL_law_271 (fun H locs hP hD hS => ?_)
        refine lv_aload_n hx hb dL_law_274 rfl (lv_at hl 2 rfl) ?_
        refine lv_aload_n hx hb dL_law_275 rfl (lv_at hl 0 rfl) ?_
        refine lv_iload_n hx hb dL_law_276 rfl (lv_at hl 3 rfl) ?_
        refine lv_iconst (v := 1) hx hb dL_law_277 (by decide) ?_
        refine lv_iadd hx hb dL_law_278 ?_
        refine va_sld hx hb hX hbl hbA hS h_1 dL_law_279 ?_
        rw [← ew1]
        refine lv_aload_n hx hb dL_law_280 rfl (lv_at hl 0 rfl) ?_
        refine lv_iload_n hx hb dL_law_281 rfl (lv_at hl 3 rfl) ?_
        refine lv_iconst (v := 2) hx hb dL_law_282 (by decide) ?_
        refine lv_iadd hx hb dL_law_283 ?_
        refine va_sld hx hb hX hbl hbA hS h_2 dL_law_284 ?_
        rw [← ew2]
        refine lv_aload_n hx hb dL_law_285 rfl (lv_at hl 0 rfl) ?_
        refine lv_iload_n hx hb dL_law_286 rfl (lv_at hl 3 rfl) ?_
        refine lv_iconst (v := 3) hx hb dL_law_287 (by decide) ?_
        refine lv_iadd hx hb dL_law_288 ?_
        refine va_sld hx hb hX hbl hbA hS h_3 dL_law_289 ?_
        rw [← ew3]
        refine ycallL (n := 3) (r := r) (st2 := t) (rest := [.int r]) F hA (c1_sweep l D w1 w2 w3) gL_law_X1_sweep rfl (by decide +kernel) rfl ⟨Nat.le_of_ble_eq_true rfl, Nat.le_of_ble_eq_true rfl⟩ rfl hl.1 hK1 hP hD hS hf1 rfl (Nat.le_of_ble_eq_true rfl) ⟨Nat.le_of_ble_eq_true rfl, Nat.le_of_ble_eq_true rfl⟩ dL_law_290 (fun H locs hP hD hS => ?_)
        refine lv_icmp_eq (tgt := 599) hx hb dL_law_293 (by decide) (fun _ => ?_) (fun kq => absurd rfl kq)
        exact fin t H locs ls hIt hP hD hS hl
      by_cases k_7 : z = 6
      · refine lv_tableIn (off := 266) (tgt := 298) hx hb dL_law_32 (by rw [k_7]; decide) (by rw [k_7]; decide) (by rw [k_7]; decide) (by decide) ?_
        obtain ⟨r, t, hf0, hf1, hIt⟩ := pu_tour (((w1.toInt64 <<< ((32 : Int32).toInt64 &&& 63)) ||| (w2.toInt64 &&& 4294967295))) w3 hI
        refine lv_aload_n hx hb dL_law_298 rfl (lv_at hl 1 rfl) ?_
        refine lv_aload_n hx hb dL_law_299 rfl (lv_at hl 0 rfl) ?_
        refine lv_iload_n hx hb dL_law_300 rfl (lv_at hl 3 rfl) ?_
        refine lv_iconst (v := 1) hx hb dL_law_301 (by decide) ?_
        refine lv_iadd hx hb dL_law_302 ?_
        refine va_sld hx hb hX hbl hbA hS h_1 dL_law_303 ?_
        rw [← ew1]
        refine lv_i2l hx hb dL_law_304 rfl ?_
        refine lv_bipush (v := 32) hx hb dL_law_305 (by decide) ?_
        refine lv_lshl hx hb dL_law_307 rfl ?_
        refine lv_aload_n hx hb dL_law_308 rfl (lv_at hl 0 rfl) ?_
        refine lv_iload_n hx hb dL_law_309 rfl (lv_at hl 3 rfl) ?_
        refine lv_iconst (v := 2) hx hb dL_law_310 (by decide) ?_
        refine lv_iadd hx hb dL_law_311 ?_
        refine va_sld hx hb hX hbl hbA hS h_2 dL_law_312 ?_
        rw [← ew2]
        refine lv_i2l hx hb dL_law_313 rfl ?_
        refine lv_ldc2 hx hb hown (hts (.constantLong RL 40 4294967295) (by decide +kernel)) dL_law_314 ?_
        refine lv_land hx hb dL_law_317 ?_
        refine lv_lor hx hb dL_law_318 ?_
        refine lv_aload_n hx hb dL_law_319 rfl (lv_at hl 0 rfl) ?_
        refine lv_iload_n hx hb dL_law_320 rfl (lv_at hl 3 rfl) ?_
        refine lv_iconst (v := 3) hx hb dL_law_321 (by decide) ?_
        refine lv_iadd hx hb dL_law_322 ?_
        refine va_sld hx hb hX hbl hbA hS h_3 dL_law_323 ?_
        rw [← ew3]
        refine ycallL (n := 2) (r := r) (st2 := t) (rest := []) F hA (c0_tour l D (((w1.toInt64 <<< ((32 : Int32).toInt64 &&& 63)) ||| (w2.toInt64 &&& 4294967295))) w3) gL_law_X0_tour rfl (by decide +kernel) rfl ⟨Nat.le_of_ble_eq_true rfl, Nat.le_of_ble_eq_true rfl⟩ rfl hl.1 hK0 hP hD hS hf0 rfl (Nat.le_of_ble_eq_true rfl) ⟨Nat.le_of_ble_eq_true rfl, Nat.le_of_ble_eq_true rfl⟩ dL_law_324 (fun H locs hP hD hS => ?_)
        refine lv_aload_n hx hb dL_law_327 rfl (lv_at hl 2 rfl) ?_
        refine lv_aload_n hx hb dL_law_328 rfl (lv_at hl 0 rfl) ?_
        refine lv_iload_n hx hb dL_law_329 rfl (lv_at hl 3 rfl) ?_
        refine lv_iconst (v := 1) hx hb dL_law_330 (by decide) ?_
        refine lv_iadd hx hb dL_law_331 ?_
        refine va_sld hx hb hX hbl hbA hS h_1 dL_law_332 ?_
        rw [← ew1]
        refine lv_i2l hx hb dL_law_333 rfl ?_
        refine lv_bipush (v := 32) hx hb dL_law_334 (by decide) ?_
        refine lv_lshl hx hb dL_law_336 rfl ?_
        refine lv_aload_n hx hb dL_law_337 rfl (lv_at hl 0 rfl) ?_
        refine lv_iload_n hx hb dL_law_338 rfl (lv_at hl 3 rfl) ?_
        refine lv_iconst (v := 2) hx hb dL_law_339 (by decide) ?_
        refine lv_iadd hx hb dL_law_340 ?_
        refine va_sld hx hb hX hbl hbA hS h_2 dL_law_341 ?_
        rw [← ew2]
        refine lv_i2l hx hb dL_law_342 rfl ?_
        refine lv_ldc2 hx hb hown (hts (.constantLong RL 40 4294967295) (by decide +kernel)) dL_law_343 ?_
        refine lv_land hx hb dL_law_346 ?_
        refine lv_lor hx hb dL_law_347 ?_
        refine lv_aload_n hx hb dL_law_348 rfl (lv_at hl 0 rfl) ?_
        refine lv_iload_n hx hb dL_law_349 rfl (lv_at hl 3 rfl) ?_
        refine lv_iconst (v := 3) hx hb dL_law_350 (by decide) ?_
        refine lv_iadd hx hb dL_law_351 ?_
        refine va_sld hx hb hX hbl hbA hS h_3 dL_law_352 ?_
        rw [← ew3]
        refine ycallL (n := 2) (r := r) (st2 := t) (rest := [.int r]) F hA (c1_tour l D (((w1.toInt64 <<< ((32 : Int32).toInt64 &&& 63)) ||| (w2.toInt64 &&& 4294967295))) w3) gL_law_X1_tour rfl (by decide +kernel) rfl ⟨Nat.le_of_ble_eq_true rfl, Nat.le_of_ble_eq_true rfl⟩ rfl hl.1 hK1 hP hD hS hf1 rfl (Nat.le_of_ble_eq_true rfl) ⟨Nat.le_of_ble_eq_true rfl, Nat.le_of_ble_eq_true rfl⟩ dL_law_353 (fun H locs hP hD hS => ?_)
        refine lv_icmp_eq (tgt := 599) hx hb dL_law_356 (by decide) (fun _ => ?_) (fun kq => absurd rfl kq)
        exact fin t H locs ls hIt hP hD hS hl
      by_cases k_8 : z = 7
      · refine lv_tableIn (off := 329) (tgt := 361) hx hb dL_law_32 (by rw [k_8]; decide) (by rw [k_8]; decide) (by rw [k_8]; decide) (by decide) ?_
        obtain ⟨r, t, hf0, hf1, hIt⟩ := pu_chain (((w1.toInt64 <<< ((32 : Int32).toInt64 &&& 63)) ||| (w2.toInt64 &&& 4294967295))) w3 hI
        refine lv_aload_n hx hb dL_law_361 rfl (lv_at hl 1 rfl) ?_
        refine lv_aload_n hx hb dL_law_362 rfl (lv_at hl 0 rfl) ?_
        refine lv_iload_n hx hb dL_law_363 rfl (lv_at hl 3 rfl) ?_
        refine lv_iconst (v := 1) hx hb dL_law_364 (by decide) ?_
        refine lv_iadd hx hb dL_law_365 ?_
        refine va_sld hx hb hX hbl hbA hS h_1 dL_law_366 ?_
        rw [← ew1]
        refine lv_i2l hx hb dL_law_367 rfl ?_
        refine lv_bipush (v := 32) hx hb dL_law_368 (by decide) ?_
        refine lv_lshl hx hb dL_law_370 rfl ?_
        refine lv_aload_n hx hb dL_law_371 rfl (lv_at hl 0 rfl) ?_
        refine lv_iload_n hx hb dL_law_372 rfl (lv_at hl 3 rfl) ?_
        refine lv_iconst (v := 2) hx hb dL_law_373 (by decide) ?_
        refine lv_iadd hx hb dL_law_374 ?_
        refine va_sld hx hb hX hbl hbA hS h_2 dL_law_375 ?_
        rw [← ew2]
        refine lv_i2l hx hb dL_law_376 rfl ?_
        refine lv_ldc2 hx hb hown (hts (.constantLong RL 40 4294967295) (by decide +kernel)) dL_law_377 ?_
        refine lv_land hx hb dL_law_380 ?_
        refine lv_lor hx hb dL_law_381 ?_
        refine lv_aload_n hx hb dL_law_382 rfl (lv_at hl 0 rfl) ?_
        refine lv_iload_n hx hb dL_law_383 rfl (lv_at hl 3 rfl) ?_
        refine lv_iconst (v := 3) hx hb dL_law_384 (by decide) ?_
        refine lv_iadd hx hb dL_law_385 ?_
        refine va_sld hx hb hX hbl hbA hS h_3 dL_law_386 ?_
        rw [← ew3]
        refine ycallL (n := 2) (r := r) (st2 := t) (rest := []) F hA (c0_chain l D (((w1.toInt64 <<< ((32 : Int32).toInt64 &&& 63)) ||| (w2.toInt64 &&& 4294967295))) w3) gL_law_X0_chain rfl (by decide +kernel) rfl ⟨Nat.le_of_ble_eq_true rfl, Nat.le_of_ble_eq_true rfl⟩ rfl hl.1 hK0 hP hD hS hf0 rfl (Nat.le_of_ble_eq_true rfl) ⟨Nat.le_of_ble_eq_true rfl, Nat.le_of_ble_eq_true rfl⟩ dL_law_387 (fun H locs hP hD hS => ?_)
        refine lv_aload_n hx hb dL_law_390 rfl (lv_at hl 2 rfl) ?_
        refine lv_aload_n hx hb dL_law_391 rfl (lv_at hl 0 rfl) ?_
        refine lv_iload_n hx hb dL_law_392 rfl (lv_at hl 3 rfl) ?_
        refine lv_iconst (v := 1) hx hb dL_law_393 (by decide) ?_
        refine lv_iadd hx hb dL_law_394 ?_
        refine va_sld hx hb hX hbl hbA hS h_1 dL_law_395 ?_
        rw [← ew1]
        refine lv_i2l hx hb dL_law_396 rfl ?_
        refine lv_bipush (v := 32) hx hb dL_law_397 (by decide) ?_
        refine lv_lshl hx hb dL_law_399 rfl ?_
        refine lv_aload_n hx hb dL_law_400 rfl (lv_at hl 0 rfl) ?_
        refine lv_iload_n hx hb dL_law_401 rfl (lv_at hl 3 rfl) ?_
        refine lv_iconst (v := 2) hx hb dL_law_402 (by decide) ?_
        refine lv_iadd hx hb dL_law_403 ?_
        refine va_sld hx hb hX hbl hbA hS h_2 dL_law_404 ?_
        rw [← ew2]
        refine lv_i2l hx hb dL_law_405 rfl ?_
        refine lv_ldc2 hx hb hown (hts (.constantLong RL 40 4294967295) (by decide +kernel)) dL_law_406 ?_
        refine lv_land hx hb dL_law_409 ?_
        refine lv_lor hx hb dL_law_410 ?_
        refine lv_aload_n hx hb dL_law_411 rfl (lv_at hl 0 rfl) ?_
        refine lv_iload_n hx hb dL_law_412 rfl (lv_at hl 3 rfl) ?_
        refine lv_iconst (v := 3) hx hb dL_law_413 (by decide) ?_
        refine lv_iadd hx hb dL_law_414 ?_
        refine va_sld hx hb hX hbl hbA hS h_3 dL_law_415 ?_
        rw [← ew3]
        refine ycallL (n := 2) (r := r) (st2 := t) (rest := [.int r]) F hA (c1_chain l D (((w1.toInt64 <<< ((32 : Int32).toInt64 &&& 63)) ||| (w2.toInt64 &&& 4294967295))) w3) gL_law_X1_chain rfl (by decide +kernel) rfl ⟨Nat.le_of_ble_eq_true rfl, Nat.le_of_ble_eq_true rfl⟩ rfl hl.1 hK1 hP hD hS hf1 rfl (Nat.le_of_ble_eq_true rfl) ⟨Nat.le_of_ble_eq_true rfl, Nat.le_of_ble_eq_true rfl⟩ dL_law_416 (fun H locs hP hD hS => ?_)
        refine lv_icmp_eq (tgt := 599) hx hb dL_law_419 (by decide) (fun _ => ?_) (fun kq => absurd rfl kq)
        exact fin t H locs ls hIt hP hD hS hl
      by_cases k_9 : z = 8
      · refine lv_tableIn (off := 392) (tgt := 424) hx hb dL_law_32 (by rw [k_9]; decide) (by rw [k_9]; decide) (by rw [k_9]; decide) (by decide) ?_
        obtain ⟨r, t, hf0, hf1, hIt⟩ := pu_survey (((w1.toInt64 <<< ((32 : Int32).toInt64 &&& 63)) ||| (w2.toInt64 &&& 4294967295))) w3 hI
        refine lv_aload_n hx hb dL_law_424 rfl (lv_at hl 1 rfl) ?_
        refine lv_aload_n hx hb dL_law_425 rfl (lv_at hl 0 rfl) ?_
        refine lv_iload_n hx hb dL_law_426 rfl (lv_at hl 3 rfl) ?_
        refine lv_iconst (v := 1) hx hb dL_law_427 (by decide) ?_
        refine lv_iadd hx hb dL_law_428 ?_
        refine va_sld hx hb hX hbl hbA hS h_1 dL_law_429 ?_
        rw [← ew1]
        refine lv_i2l hx hb dL_law_430 rfl ?_
        refine lv_bipush (v := 32) hx hb dL_law_431 (by decide) ?_
        refine lv_lshl hx hb dL_law_433 rfl ?_
        refine lv_aload_n hx hb dL_law_434 rfl (lv_at hl 0 rfl) ?_
        refine lv_iload_n hx hb dL_law_435 rfl (lv_at hl 3 rfl) ?_
        refine lv_iconst (v := 2) hx hb dL_law_436 (by decide) ?_
        refine lv_iadd hx hb dL_law_437 ?_
        refine va_sld hx hb hX hbl hbA hS h_2 dL_law_438 ?_
        rw [← ew2]
        refine lv_i2l hx hb dL_law_439 rfl ?_
        refine lv_ldc2 hx hb hown (hts (.constantLong RL 40 4294967295) (by decide +kernel)) dL_law_440 ?_
        refine lv_land hx hb dL_law_443 ?_
        refine lv_lor hx hb dL_law_444 ?_
        refine lv_aload_n hx hb dL_law_445 rfl (lv_at hl 0 rfl) ?_
        refine lv_iload_n hx hb dL_law_446 rfl (lv_at hl 3 rfl) ?_
        refine lv_iconst (v := 3) hx hb dL_law_447 (by decide) ?_
        refine lv_iadd hx hb dL_law_448 ?_
        refine va_sld hx hb hX hbl hbA hS h_3 dL_law_449 ?_
        rw [← ew3]
        refine ycallL (n := 2) (r := r) (st2 := t) (rest := []) F hA (c0_survey l D (((w1.toInt64 <<< ((32 : Int32).toInt64 &&& 63)) ||| (w2.toInt64 &&& 4294967295))) w3) gL_law_X0_survey rfl (by decide +kernel) rfl ⟨Nat.le_of_ble_eq_true rfl, Nat.le_of_ble_eq_true rfl⟩ rfl hl.1 hK0 hP hD hS hf0 rfl (Nat.le_of_ble_eq_true rfl) ⟨Nat.le_of_ble_eq_true rfl, Nat.le_of_ble_eq_true rfl⟩ dL_law_450 (fun H locs hP hD hS => ?_)
        refine lv_aload_n hx hb dL_law_453 rfl (lv_at hl 2 rfl) ?_
        refine lv_aload_n hx hb dL_law_454 rfl (lv_at hl 0 rfl) ?_
        refine lv_iload_n hx hb dL_law_455 rfl (lv_at hl 3 rfl) ?_
        refine lv_iconst (v := 1) hx hb dL_law_456 (by decide) ?_
        refine lv_iadd hx hb dL_law_457 ?_
        refine va_sld hx hb hX hbl hbA hS h_1 dL_law_458 ?_
        rw [← ew1]
        refine lv_i2l hx hb dL_law_459 rfl ?_
        refine lv_bipush (v := 32) hx hb dL_law_460 (by decide) ?_
        refine lv_lshl hx hb dL_law_462 rfl ?_
        refine lv_aload_n hx hb dL_law_463 rfl (lv_at hl 0 rfl) ?_
        refine lv_iload_n hx hb dL_law_464 rfl (lv_at hl 3 rfl) ?_
        refine lv_iconst (v := 2) hx hb dL_law_465 (by decide) ?_
        refine lv_iadd hx hb dL_law_466 ?_
        refine va_sld hx hb hX hbl hbA hS h_2 dL_law_467 ?_
        rw [← ew2]
        refine lv_i2l hx hb dL_law_468 rfl ?_
        refine lv_ldc2 hx hb hown (hts (.constantLong RL 40 4294967295) (by decide +kernel)) dL_law_469 ?_
        refine lv_land hx hb dL_law_472 ?_
        refine lv_lor hx hb dL_law_473 ?_
        refine lv_aload_n hx hb dL_law_474 rfl (lv_at hl 0 rfl) ?_
        refine lv_iload_n hx hb dL_law_475 rfl (lv_at hl 3 rfl) ?_
        refine lv_iconst (v := 3) hx hb dL_law_476 (by decide) ?_
        refine lv_iadd hx hb dL_law_477 ?_
        refine va_sld hx hb hX hbl hbA hS h_3 dL_law_478 ?_
        rw [← ew3]
        refine ycallL (n := 2) (r := r) (st2 := t) (rest := [.int r]) F hA (c1_survey l D (((w1.toInt64 <<< ((32 : Int32).toInt64 &&& 63)) ||| (w2.toInt64 &&& 4294967295))) w3) gL_law_X1_survey rfl (by decide +kernel) rfl ⟨Nat.le_of_ble_eq_true rfl, Nat.le_of_ble_eq_true rfl⟩ rfl hl.1 hK1 hP hD hS hf1 rfl (Nat.le_of_ble_eq_true rfl) ⟨Nat.le_of_ble_eq_true rfl, Nat.le_of_ble_eq_true rfl⟩ dL_law_479 (fun H locs hP hD hS => ?_)
        refine lv_icmp_eq (tgt := 599) hx hb dL_law_482 (by decide) (fun _ => ?_) (fun kq => absurd rfl kq)
        exact fin t H locs ls hIt hP hD hS hl
      by_cases k_10 : z = 9
      · refine lv_tableIn (off := 455) (tgt := 487) hx hb dL_law_32 (by rw [k_10]; decide) (by rw [k_10]; decide) (by rw [k_10]; decide) (by decide) ?_
        obtain ⟨r, t, hf0, hf1, hIt⟩ := pu_turn w1 hI
        refine lv_aload_n hx hb dL_law_487 rfl (lv_at hl 1 rfl) ?_
        refine lv_aload_n hx hb dL_law_488 rfl (lv_at hl 0 rfl) ?_
        refine lv_iload_n hx hb dL_law_489 rfl (lv_at hl 3 rfl) ?_
        refine lv_iconst (v := 1) hx hb dL_law_490 (by decide) ?_
        refine lv_iadd hx hb dL_law_491 ?_
        refine va_sld hx hb hX hbl hbA hS h_1 dL_law_492 ?_
        rw [← ew1]
        refine ycallL (n := 1) (r := r) (st2 := t) (rest := []) F hA (c0_turn l D w1) gL_law_X0_turn rfl (by decide +kernel) rfl ⟨Nat.le_of_ble_eq_true rfl, Nat.le_of_ble_eq_true rfl⟩ rfl hl.1 hK0 hP hD hS hf0 rfl (Nat.le_of_ble_eq_true rfl) ⟨Nat.le_of_ble_eq_true rfl, Nat.le_of_ble_eq_true rfl⟩ dL_law_493 (fun H locs hP hD hS => ?_)
        refine lv_aload_n hx hb dL_law_496 rfl (lv_at hl 2 rfl) ?_
        refine lv_aload_n hx hb dL_law_497 rfl (lv_at hl 0 rfl) ?_
        refine lv_iload_n hx hb dL_law_498 rfl (lv_at hl 3 rfl) ?_
        refine lv_iconst (v := 1) hx hb dL_law_499 (by decide) ?_
        refine lv_iadd hx hb dL_law_500 ?_
        refine va_sld hx hb hX hbl hbA hS h_1 dL_law_501 ?_
        rw [← ew1]
        refine ycallL (n := 1) (r := r) (st2 := t) (rest := [.int r]) F hA (c1_turn l D w1) gL_law_X1_turn rfl (by decide +kernel) rfl ⟨Nat.le_of_ble_eq_true rfl, Nat.le_of_ble_eq_true rfl⟩ rfl hl.1 hK1 hP hD hS hf1 rfl (Nat.le_of_ble_eq_true rfl) ⟨Nat.le_of_ble_eq_true rfl, Nat.le_of_ble_eq_true rfl⟩ dL_law_502 (fun H locs hP hD hS => ?_)
        refine lv_icmp_eq (tgt := 599) hx hb dL_law_505 (by decide) (fun _ => ?_) (fun kq => absurd rfl kq)
        exact fin t H locs ls hIt hP hD hS hl
      by_cases k_11 : z = 10
      · refine lv_tableIn (off := 478) (tgt := 510) hx hb dL_law_32 (by rw [k_11]; decide) (by rw [k_11]; decide) (by rw [k_11]; decide) (by decide) ?_
        obtain ⟨r, t, hf0, hf1, hIt⟩ := pu_swap w1 w2 hI
        refine lv_aload_n hx hb dL_law_510 rfl (lv_at hl 1 rfl) ?_
        refine lv_aload_n hx hb dL_law_511 rfl (lv_at hl 0 rfl) ?_
        refine lv_iload_n hx hb dL_law_512 rfl (lv_at hl 3 rfl) ?_
        refine lv_iconst (v := 1) hx hb dL_law_513 (by decide) ?_
        refine lv_iadd hx hb dL_law_514 ?_
        refine va_sld hx hb hX hbl hbA hS h_1 dL_law_515 ?_
        rw [← ew1]
        refine lv_aload_n hx hb dL_law_516 rfl (lv_at hl 0 rfl) ?_
        refine lv_iload_n hx hb dL_law_517 rfl (lv_at hl 3 rfl) ?_
        refine lv_iconst (v := 2) hx hb dL_law_518 (by decide) ?_
        refine lv_iadd hx hb dL_law_519 ?_
        refine va_sld hx hb hX hbl hbA hS h_2 dL_law_520 ?_
        rw [← ew2]
        refine ycallL (n := 2) (r := r) (st2 := t) (rest := []) F hA (c0_swap l D w1 w2) gL_law_X0_swap rfl (by decide +kernel) rfl ⟨Nat.le_of_ble_eq_true rfl, Nat.le_of_ble_eq_true rfl⟩ rfl hl.1 hK0 hP hD hS hf0 rfl (Nat.le_of_ble_eq_true rfl) ⟨Nat.le_of_ble_eq_true rfl, Nat.le_of_ble_eq_true rfl⟩ dL_law_521 (fun H locs hP hD hS => ?_)
        refine lv_aload_n hx hb dL_law_524 rfl (lv_at hl 2 rfl) ?_
        refine lv_aload_n hx hb dL_law_525 rfl (lv_at hl 0 rfl) ?_
        refine lv_iload_n hx hb dL_law_526 rfl (lv_at hl 3 rfl) ?_
        refine lv_iconst (v := 1) hx hb dL_law_527 (by decide) ?_
        refine lv_iadd hx hb dL_law_528 ?_
        refine va_sld hx hb hX hbl hbA hS h_1 dL_law_529 ?_
        rw [← ew1]
        refine lv_aload_n hx hb dL_law_530 rfl (lv_at hl 0 rfl) ?_
        refine lv_iload_n hx hb dL_law_531 rfl (lv_at hl 3 rfl) ?_
        refine lv_iconst (v := 2) hx hb dL_law_532 (by decide) ?_
        refine lv_iadd hx hb dL_law_533 ?_
        refine va_sld hx hb hX hbl hbA hS h_2 dL_law_534 ?_
        rw [← ew2]
        refine ycallL (n := 2) (r := r) (st2 := t) (rest := [.int r]) F hA (c1_swap l D w1 w2) gL_law_X1_swap rfl (by decide +kernel) rfl ⟨Nat.le_of_ble_eq_true rfl, Nat.le_of_ble_eq_true rfl⟩ rfl hl.1 hK1 hP hD hS hf1 rfl (Nat.le_of_ble_eq_true rfl) ⟨Nat.le_of_ble_eq_true rfl, Nat.le_of_ble_eq_true rfl⟩ dL_law_535 (fun H locs hP hD hS => ?_)
        refine lv_icmp_eq (tgt := 599) hx hb dL_law_538 (by decide) (fun _ => ?_) (fun kq => absurd rfl kq)
        exact fin t H locs ls hIt hP hD hS hl
      by_cases k_12 : z = 11
      · refine lv_tableIn (off := 511) (tgt := 543) hx hb dL_law_32 (by rw [k_12]; decide) (by rw [k_12]; decide) (by rw [k_12]; decide) (by decide) ?_
        obtain ⟨r, t, hf0, hf1, hIt⟩ := pu_wagon w1 w2 hI
        refine lv_aload_n hx hb dL_law_543 rfl (lv_at hl 1 rfl) ?_
        refine lv_aload_n hx hb dL_law_544 rfl (lv_at hl 0 rfl) ?_
        refine lv_iload_n hx hb dL_law_545 rfl (lv_at hl 3 rfl) ?_
        refine lv_iconst (v := 1) hx hb dL_law_546 (by decide) ?_
        refine lv_iadd hx hb dL_law_547 ?_
        refine va_sld hx hb hX hbl hbA hS h_1 dL_law_548 ?_
        rw [← ew1]
        refine lv_aload_n hx hb dL_law_549 rfl (lv_at hl 0 rfl) ?_
        refine lv_iload_n hx hb dL_law_550 rfl (lv_at hl 3 rfl) ?_
        refine lv_iconst (v := 2) hx hb dL_law_551 (by decide) ?_
        refine lv_iadd hx hb dL_law_552 ?_
        refine va_sld hx hb hX hbl hbA hS h_2 dL_law_553 ?_
        rw [← ew2]
        refine ycallL (n := 2) (r := r) (st2 := t) (rest := []) F hA (c0_wagon l D w1 w2) gL_law_X0_wagon rfl (by decide +kernel) rfl ⟨Nat.le_of_ble_eq_true rfl, Nat.le_of_ble_eq_true rfl⟩ rfl hl.1 hK0 hP hD hS hf0 rfl (Nat.le_of_ble_eq_true rfl) ⟨Nat.le_of_ble_eq_true rfl, Nat.le_of_ble_eq_true rfl⟩ dL_law_554 (fun H locs hP hD hS => ?_)
        refine lv_aload_n hx hb dL_law_557 rfl (lv_at hl 2 rfl) ?_
        refine lv_aload_n hx hb dL_law_558 rfl (lv_at hl 0 rfl) ?_
        refine lv_iload_n hx hb dL_law_559 rfl (lv_at hl 3 rfl) ?_
        refine lv_iconst (v := 1) hx hb dL_law_560 (by decide) ?_
        refine lv_iadd hx hb dL_law_561 ?_
        refine va_sld hx hb hX hbl hbA hS h_1 dL_law_562 ?_
        rw [← ew1]
        refine lv_aload_n hx hb dL_law_563 rfl (lv_at hl 0 rfl) ?_
        refine lv_iload_n hx hb dL_law_564 rfl (lv_at hl 3 rfl) ?_
        refine lv_iconst (v := 2) hx hb dL_law_565 (by decide) ?_
        refine lv_iadd hx hb dL_law_566 ?_
        refine va_sld hx hb hX hbl hbA hS h_2 dL_law_567 ?_
        rw [← ew2]
        refine ycallL (n := 2) (r := r) (st2 := t) (rest := [.int r]) F hA (c1_wagon l D w1 w2) gL_law_X1_wagon rfl (by decide +kernel) rfl ⟨Nat.le_of_ble_eq_true rfl, Nat.le_of_ble_eq_true rfl⟩ rfl hl.1 hK1 hP hD hS hf1 rfl (Nat.le_of_ble_eq_true rfl) ⟨Nat.le_of_ble_eq_true rfl, Nat.le_of_ble_eq_true rfl⟩ dL_law_568 (fun H locs hP hD hS => ?_)
        refine lv_icmp_eq (tgt := 599) hx hb dL_law_571 (by decide) (fun _ => ?_) (fun kq => absurd rfl kq)
        exact fin t H locs ls hIt hP hD hS hl
      by_cases k_13 : z = 12
      · refine lv_tableIn (off := 544) (tgt := 576) hx hb dL_law_32 (by rw [k_13]; decide) (by rw [k_13]; decide) (by rw [k_13]; decide) (by decide) ?_
        obtain ⟨r, t, hf0, hf1, hIt⟩ := pu_told w1 hI
        refine lv_aload_n hx hb dL_law_576 rfl (lv_at hl 1 rfl) ?_
        refine lv_aload_n hx hb dL_law_577 rfl (lv_at hl 0 rfl) ?_
        refine lv_iload_n hx hb dL_law_578 rfl (lv_at hl 3 rfl) ?_
        refine lv_iconst (v := 1) hx hb dL_law_579 (by decide) ?_
        refine lv_iadd hx hb dL_law_580 ?_
        refine va_sld hx hb hX hbl hbA hS h_1 dL_law_581 ?_
        rw [← ew1]
        refine ycallL (n := 1) (r := r) (st2 := t) (rest := []) F hA (c0_told l D w1) gL_law_X0_told rfl (by decide +kernel) rfl ⟨Nat.le_of_ble_eq_true rfl, Nat.le_of_ble_eq_true rfl⟩ rfl hl.1 hK0 hP hD hS hf0 rfl (Nat.le_of_ble_eq_true rfl) ⟨Nat.le_of_ble_eq_true rfl, Nat.le_of_ble_eq_true rfl⟩ dL_law_582 (fun H locs hP hD hS => ?_)
        refine lv_aload_n hx hb dL_law_585 rfl (lv_at hl 2 rfl) ?_
        refine lv_aload_n hx hb dL_law_586 rfl (lv_at hl 0 rfl) ?_
        refine lv_iload_n hx hb dL_law_587 rfl (lv_at hl 3 rfl) ?_
        refine lv_iconst (v := 1) hx hb dL_law_588 (by decide) ?_
        refine lv_iadd hx hb dL_law_589 ?_
        refine va_sld hx hb hX hbl hbA hS h_1 dL_law_590 ?_
        rw [← ew1]
        refine ycallL (n := 1) (r := r) (st2 := t) (rest := [.int r]) F hA (c1_told l D w1) gL_law_X1_told rfl (by decide +kernel) rfl ⟨Nat.le_of_ble_eq_true rfl, Nat.le_of_ble_eq_true rfl⟩ rfl hl.1 hK1 hP hD hS hf1 rfl (Nat.le_of_ble_eq_true rfl) ⟨Nat.le_of_ble_eq_true rfl, Nat.le_of_ble_eq_true rfl⟩ dL_law_591 (fun H locs hP hD hS => ?_)
        refine lv_icmp_eq (tgt := 599) hx hb dL_law_594 (by decide) (fun _ => ?_) (fun kq => absurd rfl kq)
        exact fin t H locs ls hIt hP hD hS hl
      refine lv_tableOut (tgt := 599) hx hb dL_law_32 (by have g0 := lv_neT (a := 0) k_1 rfl; have g1 := lv_neT (a := 1) k_2 rfl; have g2 := lv_neT (a := 2) k_3 rfl; have g3 := lv_neT (a := 3) k_4 rfl; have g4 := lv_neT (a := 4) k_5 rfl; have g5 := lv_neT (a := 5) k_6 rfl; have g6 := lv_neT (a := 6) k_7 rfl; have g7 := lv_neT (a := 7) k_8 rfl; have g8 := lv_neT (a := 8) k_9 rfl; have g9 := lv_neT (a := 9) k_10 rfl; have g10 := lv_neT (a := 10) k_11 rfl; have g11 := lv_neT (a := 11) k_12 rfl; have g12 := lv_neT (a := 12) k_13 rfl; omega) (by decide) ?_
      exact fin st H locs ls hI hP hD hS hl
