/-! The start: what the Statement gives of it. -/
theorem mem9 {w : Cond} (i : Nat) (h : tables_1[i]? = some w) : w ∈ lw_tbl := List.mem_append_right _ (List.mem_of_getElem? h)
def tmS (i : Nat) : Term := match rStr[i]? with
  | some q => .string q.1 q.2.1
  | none => .arg 0
def vaS (i : Nat) : Term := .field (tmS i) "java/lang/String" "value" "[B"
/-- what is said of the String constant i -/
def strA (i : Nat) : List Cond := .exactly (tmS i) "java/lang/String" :: .eq (.field (tmS i) "java/lang/String" "coder" "B") (.int 0) :: .arrayOf (vaS i) .byte :: .eq (.length (vaS i)) (.int (Int32.ofNat (sTx i).length)) :: (List.range (sTx i).length).map (fun j => .eq (.elem (vaS i) (.int (Int32.ofNat j))) (.int ((sTx i).getD j 0)))
def digT (nm : String) : Term := .static "java/lang/Integer" nm "[B"
def digA (nm : String) (f : Nat → Int32) : List Cond := .arrayOf (digT nm) .byte :: .eq (.length (digT nm)) (.int (Int32.ofNat 100)) :: (List.range 100).map (fun j => .eq (.elem (digT nm) (.int (Int32.ofNat j))) (.int (f j)))
def posS : List Nat := [305, 309, 464, 472, 481, 490, 502, 509, 536, 541, 547, 552, 557, 562, 567, 585, 609, 626, 631, 636, 665, 692, 712, 721, 731, 741, 754, 762]
set_option maxRecDepth 100000 in
theorem na_str : (List.range 28).all (fun i => decide (((flatC narrow_1).drop (posS.getD i 0)).take (strA i).length = strA i)) = true := by decide +kernel
set_option maxRecDepth 100000 in
theorem na_ones : ((flatC narrow_1).drop 10).take 102 = digA "DigitOnes" (fun j => nI (48 + j % 10)) := by decide +kernel
set_option maxRecDepth 100000 in
theorem na_tens : ((flatC narrow_1).drop 113).take 102 = digA "DigitTens" (fun j => nI (48 + j / 10)) := by decide +kernel
set_option maxRecDepth 100000 in
theorem na_nc : rNc.all (fun q => decide (Cond.not (.castable q.1 q.2) ∈ flatC narrow_1)) = true := by decide +kernel
set_option maxRecDepth 100000 in
theorem na_cs : Cond.eq (.static "java/lang/String" "COMPACT_STRINGS" "Z") (.int 1) ∈ flatC narrow_1 := List.mem_of_getElem? (i := 2) (by decide +kernel)
theorem na_fm : Cond.isRef (.static "jdk/internal/util/Preconditions" "SIOOBE_FORMATTER" "Ljava/util/function/BiFunction;") ∈ flatC narrow_1 := List.mem_of_getElem? (i := 3) (by decide +kernel)
theorem na_us : Cond.isRef (.static Bundle.tN "UNASSIGNED_STACK" Bundle.steD) ∈ flatC narrow_1 := List.mem_of_getElem? (i := 7) (by decide +kernel)
theorem na_ss : Cond.isRef (.static Bundle.tN "SUPPRESSED_SENTINEL" Bundle.listD) ∈ flatC narrow_1 := List.mem_of_getElem? (i := 8) (by decide +kernel)
theorem rStr_ok : rStr.all (fun q => decide (q.2.2.2 < 28) && (decide (tmS q.2.2.2 = .string q.1 q.2.1) && decide (Cond.stringRef q.1 q.2.1 q.2.2.1 ∈ tables_1))) = true := by decide +kernel
theorem sub_drop {α : Type} [DecidableEq α] {L S : List α} {p n : Nat} (h : (L.drop p).take n = S) {c : α} (hc : c ∈ S) : c ∈ L := by
  rw [← h] at hc
  exact List.mem_of_mem_drop (List.mem_of_mem_take hc)
theorem na_in {i : Nat} (hi : i < 28) : ∀ c ∈ strA i, c ∈ flatC narrow_1 := fun c hc => by
  have h := of_decide_eq_true (List.all_eq_true.mp na_str i (List.mem_range.mpr hi))
  rw [← h] at hc
  exact List.mem_of_mem_drop (List.mem_of_mem_take hc)
/-- a private method of a class above C, called on a C -/
theorem sel_sub {C : String} {x0 y0 y : MethodName} {s : State} {args : Array Value} (hy : y.cls ≠ "java/lang/invoke/MethodHandle" ∧ y.cls ≠ "java/lang/invoke/VarHandle") (h0 : (Cond.selects C x0 y0).before args s = true) (e0 : y0.cls = y.cls) (hpriv : (Cond.privateMethod y).before args s = true) (hinst : (Cond.instanceMethod y).before args s = true) : (Cond.selects C y y).before args s = true := by
  obtain ⟨mk, methM, hnamed, hmethM, -, -⟩ := Cond.instanceMethod_spec hinst
  have hfound : s.methodFound? y.cls y.name y.desc = some mk := State.methodFound?_of_named hnamed hy
  cases hc : s.vm.findClass C with
  | none => simp [Cond.before, Cond.holds, Cond.value, hc] at h0
  | some c =>
    have hsel : selectMethod {} s.vm c mk = .method mk := selectMethod_private hmethM (Cond.privateMethod_at hpriv mk methM hnamed hmethM)
    cases hf0 : s.methodFound? x0.cls x0.name x0.desc with
    | none => simp [Cond.before, Cond.holds, Cond.value, hc, hf0] at h0
    | some r0 =>
      cases hn0 : s.methodNamed? y0 with
      | none => simp [Cond.before, Cond.holds, Cond.value, hc, hf0, hn0] at h0
      | some m0 =>
        have hcls : m0.cls = mk.cls := Option.some.inj ((findClass_of_methodNamed hn0).symm.trans (by rw [e0]; exact findClass_of_methodNamed hnamed))
        simp only [Cond.before, Cond.holds, Cond.value, hc, hf0, hn0] at h0
        simp only [Cond.before, Cond.holds, Cond.value, hc, hfound, hnamed, hsel]
        cases hs0 : selectMethod {} s.vm c r0 <;> simp [hs0] at h0
        rw [hcls] at h0
        simp
        exact h0.2
theorem rSel_ok {s : State} {args : Array Value} (hts : ∀ w ∈ lw_tbl, w.before args s = true) : ∀ w ∈ rSel, w.before args s = true := by
  intro w hw
  unfold rSel at hw
  simp only [List.mem_cons, List.not_mem_nil, or_false] at hw
  rcases hw with rfl | rfl | rfl | rfl | rfl | rfl
  · exact sel_sub ⟨by decide +kernel, by decide +kernel⟩ (hts (Jvm.Cond.selects "ProphecyShop$SetupReader" ({ cls := "ProphecyShop$SetupReader", name := "begin", desc := "()V" } : Jvm.MethodName) ({ cls := "ProphecyShop$Reader", name := "begin", desc := "()V" } : Jvm.MethodName)) (mem9 464 (by decide +kernel))) rfl (hts _ (mem9 468 (by decide +kernel))) (hts _ (mem9 469 (by decide +kernel)))
  · exact sel_sub ⟨by decide +kernel, by decide +kernel⟩ (hts (Jvm.Cond.selects "ProphecyShop$SetupReader" ({ cls := "ProphecyShop$SetupReader", name := "begin", desc := "()V" } : Jvm.MethodName) ({ cls := "ProphecyShop$Reader", name := "begin", desc := "()V" } : Jvm.MethodName)) (mem9 464 (by decide +kernel))) rfl (hts _ (mem9 562 (by decide +kernel))) (hts _ (mem9 563 (by decide +kernel)))
  · exact sel_sub ⟨by decide +kernel, by decide +kernel⟩ (hts (Jvm.Cond.selects "java/lang/StringBuilder" ({ cls := "java/lang/AbstractStringBuilder", name := "isLatin1", desc := "()Z" } : Jvm.MethodName) ({ cls := "java/lang/AbstractStringBuilder", name := "isLatin1", desc := "()Z" } : Jvm.MethodName)) (mem9 1007 (by decide +kernel))) rfl (hts _ (mem9 974 (by decide +kernel))) (hts _ (mem9 975 (by decide +kernel)))
  · exact sel_sub ⟨by decide +kernel, by decide +kernel⟩ (hts (Jvm.Cond.selects "java/lang/StringBuilder" ({ cls := "java/lang/AbstractStringBuilder", name := "isLatin1", desc := "()Z" } : Jvm.MethodName) ({ cls := "java/lang/AbstractStringBuilder", name := "isLatin1", desc := "()Z" } : Jvm.MethodName)) (mem9 1007 (by decide +kernel))) rfl (hts _ (mem9 978 (by decide +kernel))) (hts _ (mem9 979 (by decide +kernel)))
  · exact sel_sub ⟨by decide +kernel, by decide +kernel⟩ (hts (Jvm.Cond.selects "java/lang/StringBuilder" ({ cls := "java/lang/AbstractStringBuilder", name := "isLatin1", desc := "()Z" } : Jvm.MethodName) ({ cls := "java/lang/AbstractStringBuilder", name := "isLatin1", desc := "()Z" } : Jvm.MethodName)) (mem9 1007 (by decide +kernel))) rfl (hts _ (mem9 1026 (by decide +kernel))) (hts _ (mem9 1027 (by decide +kernel)))
  · exact sel_sub ⟨by decide +kernel, by decide +kernel⟩ (hts (Jvm.Cond.selects "java/lang/StringBuilder" ({ cls := "java/lang/AbstractStringBuilder", name := "isLatin1", desc := "()Z" } : Jvm.MethodName) ({ cls := "java/lang/AbstractStringBuilder", name := "isLatin1", desc := "()Z" } : Jvm.MethodName)) (mem9 1007 (by decide +kernel))) rfl (hts _ (mem9 1030 (by decide +kernel))) (hts _ (mem9 1031 (by decide +kernel)))
theorem iwTJ0b : ∀ w ∈ u_ws RJ0 TJ0 2, w ∈ lw_tbl := by decide +kernel
/-- the classes of the list -/
theorem cls_ok {s : State} {args : Array Value} (hts : ∀ w ∈ lw_tbl, w.before args s = true) : ∀ q ∈ vwCl, ∃ (c : ClassId) (iS : Nat → Nat), u_Kn s q.1 q.2.1 q.2.2 c iS := by
  unfold vwCl
  exact List.forall_mem_cons.mpr ⟨u_known (C := RJ0) (T := TJ0) (N := 4) (n := 4) hts iwTJ0 (hts _ (mem9 1077 (by decide +kernel))),
    List.forall_mem_cons.mpr ⟨u_known (C := RJ4) (T := TJ4) (N := 4) (n := 4) hts iwTJ4 (hts _ (mem9 922 (by decide +kernel))),
    List.forall_mem_cons.mpr ⟨u_known (C := RX0) (T := TX0) (N := 2) (n := 2) hts iwTX0 (hts _ (mem9 379 (by decide +kernel))),
    List.forall_mem_cons.mpr ⟨u_known (C := RX1) (T := TX1) (N := 2) (n := 2) hts iwTX1 (hts _ (mem9 164 (by decide +kernel))),
    List.forall_mem_cons.mpr ⟨u_known (C := RX2) (T := TX2) (N := 5) (n := 5) hts iwTX2 (hts _ (mem9 301 (by decide +kernel))),
    List.forall_mem_cons.mpr ⟨u_known (C := RX3) (T := TX3) (N := 10) (n := 10) hts iwTX3 (hts _ (mem9 246 (by decide +kernel))),
    List.forall_mem_cons.mpr ⟨u_known (C := RX5) (T := TX5) (N := 11) (n := 11) hts iwTX5 (hts _ (mem9 89 (by decide +kernel))),
    List.forall_mem_cons.mpr ⟨u_known (C := RX6) (T := TX6) (N := 12) (n := 12) hts iwTX6 (hts _ (mem9 158 (by decide +kernel))),
    List.forall_mem_cons.mpr ⟨u_known (C := RX7) (T := TX7) (N := 6) (n := 6) hts iwTX7 (hts _ (mem9 57 (by decide +kernel))),
    List.forall_mem_cons.mpr ⟨u_known (C := RX8) (T := TX8) (N := 15) (n := 15) hts iwTX8 (hts _ (mem9 237 (by decide +kernel))),
    List.forall_mem_cons.mpr ⟨u_known (C := RX9) (T := TX9) (N := 11) (n := 11) hts iwTX9 (hts _ (mem9 96 (by decide +kernel))),
    List.forall_mem_cons.mpr ⟨u_known (C := RX10) (T := TX10) (N := 2) (n := 2) hts iwTX10 (hts _ (mem9 43 (by decide +kernel))),
    List.forall_mem_cons.mpr ⟨u_known (C := RX11) (T := TX11) (N := 13) (n := 13) hts iwTX11 (hts _ (mem9 35 (by decide +kernel))),
    List.forall_mem_cons.mpr ⟨u_known (C := RX12) (T := TX12) (N := 35) (n := 35) hts iwTX12 (hts _ (mem9 761 (by decide +kernel))),
    List.forall_mem_cons.mpr ⟨u_known (C := RJ0) (T := TJ0) (N := 2) (n := 4) hts iwTJ0b (hts _ (mem9 1077 (by decide +kernel))),
    fun _ h => absurd h List.not_mem_nil⟩⟩⟩⟩⟩⟩⟩⟩⟩⟩⟩⟩⟩⟩⟩
theorem arr_ok {s : State} {args : Array Value} (hts : ∀ w ∈ lw_tbl, w.before args s = true) : ∀ t ∈ rTy, ∃ cA : ClassId, ArrOfT s cA t ∧ va_RA s cA t := by
  have hp : ∀ t : FieldType, (Cond.arrayClass t).before args s = true → (∀ C, t ≠ .object C) → ∃ cA : ClassId, ArrOfT s cA t ∧ va_RA s cA t := by
    intro t h hn
    obtain ⟨c, k, comp, h1, h2, h3⟩ := Cond.arrayClass_spec h
    refine ⟨c, fun N z => ⟨(fun k h => by cases h), k, h2, comp, h3⟩, ?_⟩
    cases t <;> first
      | exact absurd rfl (hn _)
      | exact h1
  have hq : ∀ C : String, (Cond.arrayOver (.object C)).before args s = true → ∃ cA : ClassId, ArrOfT s cA (.object C) ∧ va_RA s cA (.object C) := by
    intro C h
    obtain ⟨comp, c, k, h1, -, h2, h3, h4⟩ := Cond.arrayOver_spec h
    exact ⟨c, fun N z => ⟨(fun k h => by cases h), k, h2, comp, h3⟩, k, comp, h2, h3, h1, h4⟩
  unfold rTy
  exact List.forall_mem_cons.mpr ⟨hp _ (hts _ (mem9 55 (by decide +kernel))) (fun C z => by cases z),
    List.forall_mem_cons.mpr ⟨hp _ (hts _ (mem9 663 (by decide +kernel))) (fun C z => by cases z),
    List.forall_mem_cons.mpr ⟨hp _ (hts _ (mem9 664 (by decide +kernel))) (fun C z => by cases z),
    List.forall_mem_cons.mpr ⟨hp _ (hts _ (mem9 55 (by decide +kernel))) (fun C z => by cases z),
    List.forall_mem_cons.mpr ⟨hq _ (hts _ (mem9 243 (by decide +kernel))),
    List.forall_mem_cons.mpr ⟨hq _ (hts _ (mem9 245 (by decide +kernel))),
    List.forall_mem_cons.mpr ⟨hq _ (hts _ (mem9 95 (by decide +kernel))),
    List.forall_mem_cons.mpr ⟨hq _ (hts _ (mem9 385 (by decide +kernel))),
    List.forall_mem_cons.mpr ⟨hq _ (hts _ (mem9 1710 (by decide +kernel))),
    fun _ h => absurd h List.not_mem_nil⟩⟩⟩⟩⟩⟩⟩⟩⟩
/-- a table of bytes among the old cells -/
theorem tab_at {g : GL} {s : State} {t N : Nat} {f : Nat → Int32} (hb : g.2.2.2.1 = s.heap.size) (h : va_T .byte t N (fun j => .int (f j)) (fun q => s.heap.size ≤ q) s s.heap) : cellAt g s s.heap t (true, 2, N, fun j => .inl (.int (f j))) := by
  obtain ⟨cell, h1, h2, h3, h4, h5, h6, h7⟩ := h
  exact ⟨.byte, cell, rfl, h1, h2, h3, ⟨h4, h5⟩, ⟨fun z => absurd z (by decide), fun _ z => absurd (hb ▸ z) h7⟩, fun z => absurd (hb ▸ z) h7, h6⟩
set_option maxHeartbeats 4000000 in
theorem start_ok (l : Launch) (hflags : l.flags = flags0) {s : State} {b L : Nat} {xs : Nat → Int32} (hts : ∀ w ∈ lw_tbl, w.before #[Value.ref b] s = true) (hgv : (Jvm.Cond.and given_1 narrow_1).before #[Value.ref b] s = true) (hX : va_X b L xs s s.heap) (hbl : b < s.heap.size) : ∃ g : GL, g.1 = l ∧ g.2.2.2.1 = s.heap.size ∧ g.2.2.2.2.1 90 = b ∧ KU g s s.heap ∧ g.2.2.2.2.2 90 = some (true, 0, L, fun q => .inl (.int (xs q))) ∧ SG g ∧ DG g ∧ ∀ w ∈ lw_good, w.before #[Value.ref b] s = true := by
  have hn : ∀ c ∈ flatC narrow_1, c.before #[Value.ref b] s = true := fun c hc => flat_of_before _ hgv c (List.mem_append_right _ hc)
  have hA : ∀ a : Nat, a < s.heap.size → ¬ (fun q : Nat => s.heap.size ≤ q) a := fun a h => Nat.not_le.mpr h
  -- classes
  have h1 : ∀ k : Nat, ∃ p : ClassId × (Nat → Nat), ∀ q : vw_C, vwCl[k]? = some q → u_Kn s q.1 q.2.1 q.2.2 p.1 p.2 := by
    intro k
    cases hk : vwCl[k]? with
    | none => exact ⟨(0, fun _ => 0), fun q hq => by cases hq⟩
    | some r =>
      obtain ⟨c, iS, h⟩ := cls_ok hts r (List.mem_of_getElem? hk)
      exact ⟨(c, iS), fun q hq => by cases hq; exact h⟩
  obtain ⟨dd, hdd⟩ := Classical.axiomOfChoice h1
  have h2 : ∀ k : Nat, ∃ cA : ClassId, ∀ t : FieldType, rTy[k]? = some t → ArrOfT s cA t ∧ va_RA s cA t := by
    intro k
    cases hk : rTy[k]? with
    | none => exact ⟨0, fun q hq => by cases hq⟩
    | some r =>
      obtain ⟨c, h⟩ := arr_ok hts r (List.mem_of_getElem? hk)
      exact ⟨c, fun q hq => by cases hq; exact h⟩
  obtain ⟨da, hda⟩ := Classical.axiomOfChoice h2
  -- String constants
  have h3 : ∀ i : Nat, ∃ p : Nat × Nat, i < 28 → (tmS i).eval #[Value.ref b] s none [] s = some (.ref p.1) ∧ va_O "java/lang/String" p.1 (fun q => s.heap.size ≤ q) s s.heap ∧ va_OF "java/lang/String" "coder" "B" (.int 0) p.1 (fun q => s.heap.size ≤ q) s s.heap ∧ va_OF "java/lang/String" "value" "[B" (.ref p.2) p.1 (fun q => s.heap.size ≤ q) s s.heap ∧ va_T .byte p.2 (sTx i).length (fun j => .int ((sTx i).getD j 0)) (fun q => s.heap.size ≤ q) s s.heap := by
    intro i
    by_cases hi : i < 28
    · have hc : ∀ c ∈ strA i, c.before #[Value.ref b] s = true := fun c hc => hn c (na_in hi c hc)
      have c1 := hc _ List.mem_cons_self
      have c2 := hc _ (List.mem_cons_of_mem _ List.mem_cons_self)
      have c3 := hc _ (List.mem_cons_of_mem _ (List.mem_cons_of_mem _ List.mem_cons_self))
      have c4 := hc _ (List.mem_cons_of_mem _ (List.mem_cons_of_mem _ (List.mem_cons_of_mem _ List.mem_cons_self)))
      have c5 : ∀ j, j < (sTx i).length → (Cond.eq (.elem (vaS i) (.int (Int32.ofNat j))) (.int ((sTx i).getD j 0))).before #[Value.ref b] s = true := fun j hj => hc _ (List.mem_cons_of_mem _ (List.mem_cons_of_mem _ (List.mem_cons_of_mem _ (List.mem_cons_of_mem _ (List.mem_map.mpr ⟨j, List.mem_range.mpr hj, rfl⟩)))))
      obtain ⟨a, c, cA, kA, q1, q2, q3, q4, q5, q6, -⟩ := Cond.exactly_spec (args := #[Value.ref b]) (first := s) (o := none) (s := s) (idx := []) (t := tmS i) (cls := "java/lang/String") c1
      obtain ⟨t, ht, hT⟩ := va_Tof (f := fun j => .int ((sTx i).getD j 0)) (A := fun q => s.heap.size ≤ q) (by have := (sTx_ok i hi).1; omega) c3 (va_eqt c4) (fun j hj => va_eqt (c5 j hj)) hA
      exact ⟨(a, t), fun _ => ⟨q1, ⟨cA, q3, q5, by rw [q6]; exact q2, hA a (Array.getElem?_eq_some_iff.mp q3).1⟩, vk_OFof q1 (va_eqt c2) hA, vk_OFof q1 ht hA, hT⟩⟩
    · exact ⟨(0, 0), fun h => absurd h hi⟩
  obtain ⟨ad, had⟩ := Classical.axiomOfChoice h3
  -- the tables of digits
  have hdig : ∀ (nm : String) (f : Nat → Int32), (∀ c ∈ digA nm f, c.before #[Value.ref b] s = true) → ∃ t : Nat, (digT nm).eval #[Value.ref b] s none [] s = some (.ref t) ∧ va_T .byte t 100 (fun j => .int (f j)) (fun q => s.heap.size ≤ q) s s.heap := by
    intro nm f hc
    have c3 := hc _ List.mem_cons_self
    have c4 := hc _ (List.mem_cons_of_mem _ List.mem_cons_self)
    have c5 : ∀ j, j < 100 → (Cond.eq (.elem (digT nm) (.int (Int32.ofNat j))) (.int (f j))).before #[Value.ref b] s = true := fun j hj => hc _ (List.mem_cons_of_mem _ (List.mem_cons_of_mem _ (List.mem_map.mpr ⟨j, List.mem_range.mpr hj, rfl⟩)))
    exact va_Tof (f := fun j => .int (f j)) (A := fun q => s.heap.size ≤ q) (by omega) c3 (va_eqt c4) (fun j hj => va_eqt (c5 j hj)) hA
  obtain ⟨t1, ht1, hT1⟩ := hdig "DigitOnes" (fun j => nI (48 + j % 10)) (fun c hc => hn c (by rw [← na_ones] at hc; exact List.mem_of_mem_drop (List.mem_of_mem_take hc)))
  obtain ⟨t2, ht2, hT2⟩ := hdig "DigitTens" (fun j => nI (48 + j / 10)) (fun c hc => hn c (by rw [← na_tens] at hc; exact List.mem_of_mem_drop (List.mem_of_mem_take hc)))
  have hgood : ∀ w ∈ lw_good, w.before #[Value.ref b] s = true := fun w hw => by
    rcases List.mem_append.mp (List.mem_filter.mp hw).1 with h | h
    · exact hts w h
    · exact rSel_ok hts w h
  obtain ⟨oa, hoa⟩ : ∃ oa : Nat → Nat, (∀ i, i < 28 → oa i = (ad i).1 ∧ oa (40 + i) = (ad i).2) ∧ oa 90 = b ∧ oa 200 = t1 ∧ oa 201 = t2 :=
    ⟨fun q => if q < 40 then (ad q).1 else if q < 80 then (ad (q - 40)).2 else if q = 90 then b else if q = 200 then t1 else t2, fun i hi => ⟨if_pos (by omega), by
      show (if 40 + i < 40 then _ else if 40 + i < 80 then _ else _) = _
      rw [if_neg (by omega), if_pos (by omega), Nat.add_sub_cancel_left]⟩, rfl, rfl, rfl⟩
  obtain ⟨oc, hoc⟩ : ∃ oc : RG, (∀ i, i < 28 → oc i = some (false, 14, 0, sObj i) ∧ oc (40 + i) = some (true, 2, (sTx i).length, fun j => .inl (.int ((sTx i).getD j 0)))) ∧ oc 90 = some (true, 0, L, fun q => .inl (.int (xs q))) ∧ oc 200 = some (true, 2, 100, fun j => .inl (.int (nI (48 + j % 10)))) ∧ oc 201 = some (true, 2, 100, fun j => .inl (.int (nI (48 + j / 10)))) ∧ ∀ q c, oc q = some c → (q < 28 ∨ (40 ≤ q ∧ q < 68)) ∨ q = 90 ∨ q = 200 ∨ q = 201 := by
    refine ⟨fun q => if q < 28 then some (false, 14, 0, sObj q) else if q < 40 then none else if q < 68 then some (true, 2, (sTx (q - 40)).length, fun j => .inl (.int ((sTx (q - 40)).getD j 0))) else if q = 90 then some (true, 0, L, fun q => .inl (.int (xs q))) else if q = 200 then some (true, 2, 100, fun j => .inl (.int (nI (48 + j % 10)))) else if q = 201 then some (true, 2, 100, fun j => .inl (.int (nI (48 + j / 10)))) else none, fun i hi => ⟨if_pos hi, ?_⟩, rfl, rfl, rfl, fun q c hq => ?_⟩
    · show (if 40 + i < 28 then _ else if 40 + i < 40 then _ else if 40 + i < 68 then _ else _) = _
      rw [if_neg (by omega), if_neg (by omega), if_pos (by omega), Nat.add_sub_cancel_left]
    · by_cases q1 : q < 28
      · exact Or.inl (Or.inl q1)
      · replace hq : (if q < 28 then _ else if q < 40 then _ else if q < 68 then _ else if q = 90 then _ else if q = 200 then _ else if q = 201 then _ else none) = some c := hq
        rw [if_neg q1] at hq
        by_cases q5 : q < 40
        · rw [if_pos q5] at hq; cases hq
        rw [if_neg q5] at hq
        by_cases q6 : q < 68
        · exact Or.inl (Or.inr ⟨by omega, q6⟩)
        rw [if_neg q6] at hq
        by_cases q2 : q = 90
        · exact Or.inr (Or.inl q2)
        · rw [if_neg q2] at hq
          by_cases q3 : q = 200
          · exact Or.inr (Or.inr (Or.inl q3))
          · rw [if_neg q3] at hq
            by_cases q4 : q = 201
            · exact Or.inr (Or.inr (Or.inr q4))
            · rw [if_neg q4] at hq
              cases hq
  obtain ⟨ha1, ha2, ha3, ha4⟩ := hoa
  obtain ⟨hc1, hc2, hc3, hc4, hc5⟩ := hoc
  have hSG : ∀ i, i < 28 → oc i = some (false, 14, 0, sObj i) ∧ oc (40 + i) = some (true, 2, (sTx i).length, fun j => .inl (.int ((sTx i).getD j 0))) := hc1
  refine ⟨(l, (fun k => (dd k).1, fun k => (dd k).2), da, s.heap.size, oa, oc), rfl, rfl, ha2, ⟨?_, ⟨fun c q h => hdd c q h, fun k q h => ?_⟩, ?_, ?_, ?_, ⟨?_, ?_⟩, ?_, Nat.le_refl _, ?_, ?_⟩, hc2, hc1, ⟨hc3, hc4⟩, hgood⟩
  · show l.stackTraces = false
    unfold Launch.stackTraces
    rw [hflags]
    decide
  · unfold rTys at h
    rw [List.getElem?_mapIdx] at h
    cases hk : rTy[k]? with
    | none => rw [hk] at h; cases h
    | some t =>
      rw [hk] at h
      cases h
      exact hda k t hk
  · exact vx_Zqof (hts _ (mem9 700 (by decide +kernel))) (hts _ (mem9 26 (by decide +kernel))) (hn _ na_us) hA
  · exact vx_Zqof (hts _ (mem9 702 (by decide +kernel))) (hts _ (mem9 26 (by decide +kernel))) (hn _ na_ss) hA
  · intro q hq
    have h := List.all_eq_true.mp rStr_ok q hq
    rw [Bool.and_eq_true, Bool.and_eq_true] at h
    have e1 := of_decide_eq_true h.1
    have e2 := of_decide_eq_true h.2.1
    have e3 := of_decide_eq_true h.2.2
    refine vk_R.of (hts _ (List.mem_append_right _ e3)) ?_
    show (Term.string q.1 q.2.1).eval #[Value.ref b] s none [] s = some (.ref (oa q.2.2.2))
    rw [← e2, (ha1 _ e1).1]
    exact (had _ e1).1
  · intro q hq
    unfold rSta at hq
    simp only [List.mem_cons, List.not_mem_nil, or_false] at hq
    rcases hq with rfl | rfl | rfl
    · exact va_Zof (hts _ (mem9 406 (by decide +kernel))) (hts _ (mem9 13 (by decide +kernel))) (va_eqi (hn _ na_cs)) hA
    · show va_Z _ _ _ (.ref (oa 200)) _ _ _
      rw [ha3]
      exact va_Zof (hts _ (mem9 1148 (by decide +kernel))) (hts _ (mem9 25 (by decide +kernel))) ht1 hA
    · show va_Z _ _ _ (.ref (oa 201)) _ _ _
      rw [ha4]
      exact va_Zof (hts _ (mem9 1150 (by decide +kernel))) (hts _ (mem9 25 (by decide +kernel))) ht2 hA
  · exact va_Zqof (hts _ (mem9 422 (by decide +kernel))) (hts _ (mem9 15 (by decide +kernel))) (hn _ na_fm) hA
  · intro q c hq
    replace hq : oc q = some c := hq
    show oa q < s.heap.size ∧ cellAt _ s s.heap (oa q) c
    rcases hc5 q c hq with h | h | h | h
    · rcases h with h9 | h9
      · obtain ⟨d1, ⟨cO, o1, o2, o3, o4⟩, ⟨cf1, k1, i1, f1, cell1, z1, z2, z3, z4, z5, z6⟩, ⟨cf2, k2, i2, f2, cell2, y1, y2, y3, y4, y5, y6⟩, d5⟩ := had q h9
        rw [(ha1 q h9).1]
        rw [(hc1 q h9).1] at hq
        cases hq
        cases o1.symm.trans z3
        cases o1.symm.trans y3
        have hK := hdd 14 _ rfl
        refine ⟨Nat.not_le.mp o4, _, cO, rfl, o1, ?_, z4, o2, fun z => absurd z o4, fun k hk => ?_⟩
        · exact Option.some.inj (o3.symm.trans hK.2.1)
        · replace hk : k < 2 := hk
          obtain ⟨cf, kf, fi, fd, w1, w2⟩ := hK.1 k hk
          rcases (show k = 0 ∨ k = 1 by omega) with rfl | rfl
          · cases w1.symm.trans y1
            show cO.slots[(dd 14).2 0]? = some (.ref (oa (40 + q)))
            rw [← w2, (ha1 q h9).2]
            exact y5
          · cases w1.symm.trans z1
            show cO.slots[(dd 14).2 1]? = some (.int 0)
            rw [← w2]
            exact z5
      · obtain ⟨i, rfl⟩ : ∃ i, q = 40 + i := ⟨q - 40, by omega⟩
        have hi : i < 28 := by omega
        rw [(ha1 i hi).2]
        rw [(hc1 i hi).2] at hq
        cases hq
        have hT := (had i hi).2.2.2.2
        have hlt : (ad i).2 < s.heap.size := by
          obtain ⟨cell, w1, -⟩ := hT
          exact (Array.getElem?_eq_some_iff.mp w1).1
        exact ⟨hlt, tab_at rfl hT⟩
    · subst h
      rw [ha2]
      rw [hc2] at hq
      cases hq
      obtain ⟨scr, x1, x2, x3, x4, x5⟩ := hX
      exact ⟨hbl, .int, scr, rfl, x1, x2, x3, szA.of x4, ⟨fun z => absurd z (by decide), fun z => absurd z (by decide)⟩, fun z => absurd z (Nat.not_le.mpr hbl), x5⟩
    · subst h
      rw [ha3]
      rw [hc3] at hq
      cases hq
      have hlt : t1 < s.heap.size := by
        obtain ⟨cell, w1, -⟩ := hT1
        exact (Array.getElem?_eq_some_iff.mp w1).1
      exact ⟨hlt, tab_at rfl hT1⟩
    · subst h
      rw [ha4]
      rw [hc4] at hq
      cases hq
      have hlt : t2 < s.heap.size := by
        obtain ⟨cell, w1, -⟩ := hT2
        exact (Array.getElem?_eq_some_iff.mp w1).1
      exact ⟨hlt, tab_at rfl hT2⟩
  · intro w hw hb
    rcases List.mem_append.mp hw with h | h
    · have h9 := hts w h
      cases w <;> first
        | (simp [isBad] at hb; done)
        | exact va_tabs rfl rfl h9
        | exact h9
    · unfold rSel at h
      simp only [List.mem_cons, List.not_mem_nil, or_false] at h
      rcases h with rfl | rfl | rfl | rfl | rfl | rfl <;> cases hb
  · intro q hq
    exact va_Nc.of (hn _ (of_decide_eq_true (List.all_eq_true.mp na_nc q hq)))
