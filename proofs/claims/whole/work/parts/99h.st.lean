/-! THE WORLD AT THE LAW'S ENTRY -/
theorem str_at {b k : Nat} {tx : String} {s : State} (h1 : (Cond.stringRef "BatchMachine" k tx).before #[Value.ref b] s = true) (h2 : (Cond.exactly (.string "BatchMachine" k) "java/lang/String").before #[Value.ref b] s = true) : vk_R "BatchMachine" k tx (match (Term.string "BatchMachine" k).eval #[] s none [] s with | some (.ref a) => a | _ => 0) s := by
  obtain ⟨a, -, -, -, q1, -⟩ := Cond.exactly_spec h2
  have q2 : (Term.string "BatchMachine" k).eval #[] s none [] s = some (.ref a) := q1
  rw [q2]
  exact ⟨h1, q2⟩
set_option maxRecDepth 100000 in
theorem wd_start {l : Launch} {s : State} {b : Nat} (hflags : l.flags = flags0) (hts : ∀ w ∈ lw_tbl, w.before #[Value.ref b] s = true) (hgv : (Jvm.Cond.and given_1 narrow_1).before #[Value.ref b] s = true) : ∃ (D : va_G) (K : Nat → ClassId) (X : XT), Wd l D s.heap.size K X s := by
  have hTB : ∀ w ∈ TB, w.before #[Value.ref b] s = true := fun w hw => hts w (TB_sub hw)
  have hg := flat_of_before _ hgv
  have hA : ∀ a : Nat, a < s.heap.size → ¬ (fun q => s.heap.size ≤ q) a := fun a h => Nat.not_le.mpr h
  obtain ⟨c0, i0, k0⟩ := u_known (C := RX0) (T := TX0) (N := 4) (n := 4) hTB inbX0 (hts _ (lw_in (i := 148) (by decide +kernel)))
  obtain ⟨c1, i1, k1⟩ := u_known (C := RX1) (T := TX1) (N := 19) (n := 19) hTB inbX1 (hts _ (lw_in (i := 220) (by decide +kernel)))
  obtain ⟨c2, i2, k2⟩ := u_known (C := RX2) (T := TX2) (N := 6) (n := 6) hTB inbX2 (hts _ (lw_in (i := 103) (by decide +kernel)))
  obtain ⟨c3, i3, k3⟩ := u_known (C := RX3) (T := TX3) (N := 4) (n := 4) hTB inbX3 (hts _ (lw_in (i := 97) (by decide +kernel)))
  obtain ⟨c4, i4, k4⟩ := u_known (C := RX4) (T := TX4) (N := 4) (n := 4) hTB inbX4 (hts _ (lw_in (i := 195) (by decide +kernel)))
  obtain ⟨c5, i5, k5⟩ := u_known (C := RX5) (T := TX5) (N := 9) (n := 9) hTB inbX5 (hts _ (lw_in (i := 89) (by decide +kernel)))
  obtain ⟨c6, i6, k6⟩ := u_known (C := RX6) (T := TX6) (N := 26) (n := 26) hTB inbX6 (hts _ (lw_in (i := 868) (by decide +kernel)))
  obtain ⟨a0, ka0, cm0, f0, g0, m0⟩ := Cond.arrayClass_spec (hTB _ ka_int)
  obtain ⟨a1, ka1, cm1, f1, g1, m1⟩ := Cond.arrayClass_spec (hTB _ ka_long)
  have hoS : (Cond.arrayOver (.object "BatchMachine$State")).before #[Value.ref b] s = true := (hts _ (lw_in (i := 191) (by decide +kernel)))
  have hoI : (Cond.arrayOver (.array .int)).before #[Value.ref b] s = true := (hts _ (lw_in (i := 109) (by decide +kernel)))
  obtain ⟨cm2, a2, ka2, p2, q2, r2, s2, t2⟩ := Cond.arrayOver_spec hoS
  obtain ⟨cm3, a3, ka3, p3, r3, s3, t3⟩ := Cond.arrayOver_specA hoI
  obtain ⟨tL, evL, hL⟩ : ∃ t : Nat, (Term.static "BatchMachine" "LEAST_VALUE" "[I").eval #[Value.ref b] s none [] s = some (.ref t) ∧ va_T .int t 5 (fun j => .int (Int32.ofInt (rowLo j))) (fun q => s.heap.size ≤ q) s s.heap := by
    refine va_Tof (by decide) (hg (.arrayOf (Term.static "BatchMachine" "LEAST_VALUE" "[I") .int) (by decide +kernel)) (va_eqt (z := Int32.ofNat 5) (hg (.eq (.length (Term.static "BatchMachine" "LEAST_VALUE" "[I")) (.int (Int32.ofNat 5))) (by decide +kernel))) (fun j hj => ?_) hA
    rcases (show j = 0 ∨ j = 1 ∨ j = 2 ∨ j = 3 ∨ j = 4 by omega) with rfl | rfl | rfl | rfl | rfl
    · exact va_eqt (z := Int32.ofInt (rowLo 0)) (hg (.eq (.elem (Term.static "BatchMachine" "LEAST_VALUE" "[I") (.int (Int32.ofNat 0))) (.int (Int32.ofInt (rowLo 0)))) (by decide +kernel))
    · exact va_eqt (z := Int32.ofInt (rowLo 1)) (hg (.eq (.elem (Term.static "BatchMachine" "LEAST_VALUE" "[I") (.int (Int32.ofNat 1))) (.int (Int32.ofInt (rowLo 1)))) (by decide +kernel))
    · exact va_eqt (z := Int32.ofInt (rowLo 2)) (hg (.eq (.elem (Term.static "BatchMachine" "LEAST_VALUE" "[I") (.int (Int32.ofNat 2))) (.int (Int32.ofInt (rowLo 2)))) (by decide +kernel))
    · exact va_eqt (z := Int32.ofInt (rowLo 3)) (hg (.eq (.elem (Term.static "BatchMachine" "LEAST_VALUE" "[I") (.int (Int32.ofNat 3))) (.int (Int32.ofInt (rowLo 3)))) (by decide +kernel))
    · exact va_eqt (z := Int32.ofInt (rowLo 4)) (hg (.eq (.elem (Term.static "BatchMachine" "LEAST_VALUE" "[I") (.int (Int32.ofNat 4))) (.int (Int32.ofInt (rowLo 4)))) (by decide +kernel))
  obtain ⟨tG, evG, hG⟩ : ∃ t : Nat, (Term.static "BatchMachine" "GREATEST_VALUE" "[I").eval #[Value.ref b] s none [] s = some (.ref t) ∧ va_T .int t 5 (fun j => .int (Int32.ofInt (rowHi j))) (fun q => s.heap.size ≤ q) s s.heap := by
    refine va_Tof (by decide) (hg (.arrayOf (Term.static "BatchMachine" "GREATEST_VALUE" "[I") .int) (by decide +kernel)) (va_eqt (z := Int32.ofNat 5) (hg (.eq (.length (Term.static "BatchMachine" "GREATEST_VALUE" "[I")) (.int (Int32.ofNat 5))) (by decide +kernel))) (fun j hj => ?_) hA
    rcases (show j = 0 ∨ j = 1 ∨ j = 2 ∨ j = 3 ∨ j = 4 by omega) with rfl | rfl | rfl | rfl | rfl
    · exact va_eqt (z := Int32.ofInt (rowHi 0)) (hg (.eq (.elem (Term.static "BatchMachine" "GREATEST_VALUE" "[I") (.int (Int32.ofNat 0))) (.int (Int32.ofInt (rowHi 0)))) (by decide +kernel))
    · exact va_eqt (z := Int32.ofInt (rowHi 1)) (hg (.eq (.elem (Term.static "BatchMachine" "GREATEST_VALUE" "[I") (.int (Int32.ofNat 1))) (.int (Int32.ofInt (rowHi 1)))) (by decide +kernel))
    · exact va_eqt (z := Int32.ofInt (rowHi 2)) (hg (.eq (.elem (Term.static "BatchMachine" "GREATEST_VALUE" "[I") (.int (Int32.ofNat 2))) (.int (Int32.ofInt (rowHi 2)))) (by decide +kernel))
    · exact va_eqt (z := Int32.ofInt (rowHi 3)) (hg (.eq (.elem (Term.static "BatchMachine" "GREATEST_VALUE" "[I") (.int (Int32.ofNat 3))) (.int (Int32.ofInt (rowHi 3)))) (by decide +kernel))
    · exact va_eqt (z := Int32.ofInt (rowHi 4)) (hg (.eq (.elem (Term.static "BatchMachine" "GREATEST_VALUE" "[I") (.int (Int32.ofNat 4))) (.int (Int32.ofInt (rowHi 4)))) (by decide +kernel))
  refine ⟨(fun k => match k with | 0 => c0 | 1 => c1 | 2 => c2 | 3 => c3 | 4 => c4 | 5 => c5 | _ => c6, fun k => match k with | 0 => i0 | 1 => i1 | 2 => i2 | 3 => i3 | 4 => i4 | 5 => i5 | _ => i6), fun k => match k with | 0 => a0 | 1 => a1 | 2 => a2 | _ => a3, (tL, tG, fun k => match (Term.string "BatchMachine" k).eval #[] s none [] s with | some (.ref a) => a | _ => 0), ⟨?_, ?_⟩, Nat.le_refl _, fun w hw => va_Nw.of (nWord_on (List.mem_filter.mp hw).2) (hts w (List.mem_filter.mp hw).1), va_AO.of hoS, hoI, ⟨va_Zref (hts _ (lw_in (i := 601) (by decide +kernel))) (hts _ (lw_in (i := 71) (by decide +kernel))) evL hA, hL⟩, ⟨va_Zref (hts _ (lw_in (i := 408) (by decide +kernel))) (hts _ (lw_in (i := 71) (by decide +kernel))) evG hA, hG⟩, ?_, vx_Zqof (hts _ (lw_in (i := 630) (by decide +kernel))) (hts _ (lw_in (i := 78) (by decide +kernel))) (hg (.isRef (.static Bundle.tN "UNASSIGNED_STACK" Bundle.steD)) (by decide +kernel)) hA, vx_Zqof (hts _ (lw_in (i := 632) (by decide +kernel))) (hts _ (lw_in (i := 78) (by decide +kernel))) (hg (.isRef (.static Bundle.tN "SUPPRESSED_SENTINEL" Bundle.listD)) (by decide +kernel)) hA, ?_, ?_⟩
  · intro k q hq
    rcases k with _ | _ | _ | _ | _ | _ | _ | k
    · cases hq; exact k0
    · cases hq; exact k1
    · cases hq; exact k2
    · cases hq; exact k3
    · cases hq; exact k4
    · cases hq; exact k5
    · cases hq; exact k6
    · simp at hq
  · intro k q hq
    rcases k with _ | _ | _ | _ | k
    · cases hq; exact ⟨fun N z => ⟨fun k h => (by cases h), ka0, g0, cm0, m0⟩, f0⟩
    · cases hq; exact ⟨fun N z => ⟨fun k h => (by cases h), ka1, g1, cm1, m1⟩, f1⟩
    · cases hq; exact ⟨fun N z => ⟨fun k h => (by cases h), ka2, r2, cm2, s2⟩, ⟨ka2, cm2, r2, s2, p2, t2⟩⟩
    · cases hq; exact ⟨fun N z => ⟨fun k h => (by cases h), ka3, r3, cm3, s3⟩, t3⟩
    · simp [tysK] at hq
  · unfold Launch.stackTraces
    rw [hflags]
    decide
  · intro q hq
    simp only [STR, List.mem_cons, List.not_mem_nil, or_false] at hq
    rcases hq with rfl | rfl | rfl | rfl | rfl | rfl | rfl | rfl | rfl | rfl | rfl | rfl | rfl | rfl | rfl
    · exact str_at (hts _ (lw_in (i := 644) (by decide +kernel))) (hg (.exactly (.string "BatchMachine" 58) "java/lang/String") (by decide +kernel))
    · exact str_at (hts _ (lw_in (i := 680) (by decide +kernel))) (hg (.exactly (.string "BatchMachine" 72) "java/lang/String") (by decide +kernel))
    · exact str_at (hts _ (lw_in (i := 704) (by decide +kernel))) (hg (.exactly (.string "BatchMachine" 92) "java/lang/String") (by decide +kernel))
    · exact str_at (hts _ (lw_in (i := 726) (by decide +kernel))) (hg (.exactly (.string "BatchMachine" 103) "java/lang/String") (by decide +kernel))
    · exact str_at (hts _ (lw_in (i := 734) (by decide +kernel))) (hg (.exactly (.string "BatchMachine" 108) "java/lang/String") (by decide +kernel))
    · exact str_at (hts _ (lw_in (i := 742) (by decide +kernel))) (hg (.exactly (.string "BatchMachine" 110) "java/lang/String") (by decide +kernel))
    · exact str_at (hts _ (lw_in (i := 743) (by decide +kernel))) (hg (.exactly (.string "BatchMachine" 112) "java/lang/String") (by decide +kernel))
    · exact str_at (hts _ (lw_in (i := 751) (by decide +kernel))) (hg (.exactly (.string "BatchMachine" 123) "java/lang/String") (by decide +kernel))
    · exact str_at (hts _ (lw_in (i := 759) (by decide +kernel))) (hg (.exactly (.string "BatchMachine" 128) "java/lang/String") (by decide +kernel))
    · exact str_at (hts _ (lw_in (i := 760) (by decide +kernel))) (hg (.exactly (.string "BatchMachine" 133) "java/lang/String") (by decide +kernel))
    · exact str_at (hts _ (lw_in (i := 768) (by decide +kernel))) (hg (.exactly (.string "BatchMachine" 146) "java/lang/String") (by decide +kernel))
    · exact str_at (hts _ (lw_in (i := 776) (by decide +kernel))) (hg (.exactly (.string "BatchMachine" 163) "java/lang/String") (by decide +kernel))
    · exact str_at (hts _ (lw_in (i := 798) (by decide +kernel))) (hg (.exactly (.string "BatchMachine" 169) "java/lang/String") (by decide +kernel))
    · exact str_at (hts _ (lw_in (i := 811) (by decide +kernel))) (hg (.exactly (.string "BatchMachine" 182) "java/lang/String") (by decide +kernel))
    · exact str_at (hts _ (lw_in (i := 866) (by decide +kernel))) (hg (.exactly (.string "BatchMachine" 219) "java/lang/String") (by decide +kernel))
  · intro q hq
    simp only [NCS, List.mem_cons, List.not_mem_nil, or_false] at hq
    rcases hq with rfl | rfl
    · exact va_Nc.of (hg (.not (.castable "java/lang/IllegalStateException" "java/lang/IllegalArgumentException")) (by decide +kernel))
    · exact va_Nc.of (hg (.not (.castable "java/lang/IllegalArgumentException" "java/lang/IndexOutOfBoundsException")) (by decide +kernel))
