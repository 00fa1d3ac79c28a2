/-! Plan: the methods with loops -/
def insz (o : Nat → Int) (size place : Nat) (job : Int) : Nat → Int := fun j => if j < place then o j else if j = place then job else if j ≤ size then o (j - 1) else o j
theorem putAt_step {o o1 : Nat → Int} {size i : Nat} (hi : 0 < i) (hs : i ≤ size) (ho : ∀ j, o1 j = if i < j ∧ j ≤ size then o (j - 1) else o j) : ∀ j, upz o1 i (o1 (i - 1)) j = if i - 1 < j ∧ j ≤ size then o (j - 1) else o j := by
  intro j
  by_cases e : j = i
  · subst e
    rw [upz_eq, ho, if_neg (by omega), if_pos (by omega)]
  · rw [upz_ne e, ho]
    by_cases q : i < j ∧ j ≤ size
    · rw [if_pos q, if_pos (by omega)]
    · rw [if_neg q, if_neg (by omega)]
set_option maxHeartbeats 4000000 in
set_option maxRecDepth 100000 in
theorem l_putAt {d n : Nat} {F : FT} {h : PH} {p size bc place : Nat} {o e : Nat → Int} {job : Int} (hs : size < 8) (hpl : place ≤ size) (hex : ∀ (o1 : Nat → Int) (h1 : PH), (∀ j, o1 j = if place < j ∧ j ≤ size then o (j - 1) else o j) → isPlan n h1 p (size : Int) (bc : Int) o1 e → Fr h h1 p (p + 3) → QN mX0_putAt d F 52 [some (vR p), some (vI (place : Int)), some (vI job), some (vI (place : Int))] [] n h1) : ∀ (c : Nat) (i : Nat) (o1 : Nat → Int) (h1 : PH), (i = place + c) → (i ≤ size) → ((∀ j, o1 j = if i < j ∧ j ≤ size then o (j - 1) else o j)) → (isPlan n h1 p (size : Int) (bc : Int) o1 e) → (Fr h h1 p (p + 3)) → QN mX0_putAt d F 27 [some (vR p), some (vI (place : Int)), some (vI job), some (vI (i : Int))] [] n h1 := by
  intro c
  induction c with
  | zero =>
    intro i o1 h1 hc hi ho hP hF
    refine q_iload_n (pc' := 28) (dk_at dkX0_putAt 14 rfl) rfl rfl ?_
    refine q_iload_n (pc' := 29) (dk_at dkX0_putAt 15 rfl) rfl rfl ?_
    refine q_icmp_le (tgt := 52) (pc' := 32) (dk_at dkX0_putAt 16 rfl) rfl rfl (by omega) (by omega) (fun c29 => ?_) (fun c29 => ?_)
    · rw [show (i : Int) = (place : Int) by omega]
      exact hex o1 h1 (fun j => by rw [ho]; simp only [show i = place by omega]) hP hF
    · exfalso
      omega
  | succ c ih =>
    intro i o1 h1 hc hi ho hP hF
    refine q_iload_n (pc' := 28) (dk_at dkX0_putAt 14 rfl) rfl rfl ?_
    refine q_iload_n (pc' := 29) (dk_at dkX0_putAt 15 rfl) rfl rfl ?_
    refine q_icmp_le (tgt := 52) (pc' := 32) (dk_at dkX0_putAt 16 rfl) rfl rfl (by omega) (by omega) (fun c29 => ?_) (fun c29 => ?_)
    · rw [show (i : Int) = (place : Int) by omega]
      exact hex o1 h1 (fun j => by rw [ho]; simp only [show i = place by omega]) hP hF
    · refine q_aload_n (pc' := 33) (dk_at dkX0_putAt 17 rfl) rfl rfl ?_
      refine r_getf (pc' := 36) fl_RX0_9 (dk_at dkX0_putAt 18 rfl) hP.obj rfl rfl ?_
      refine q_iload_n (pc' := 37) (dk_at dkX0_putAt 19 rfl) rfl rfl ?_
      refine q_aload_n (pc' := 38) (dk_at dkX0_putAt 20 rfl) rfl rfl ?_
      refine r_getf (pc' := 41) fl_RX0_9 (dk_at dkX0_putAt 21 rfl) hP.obj rfl rfl ?_
      refine q_iload_n (pc' := 42) (dk_at dkX0_putAt 22 rfl) rfl rfl ?_
      refine q_iconst (pc' := 43) (dk_at dkX0_putAt 23 rfl) rfl ?_
      refine q_isub (pc' := 44) (dk_at dkX0_putAt 24 rfl) rfl ?_
      refine r_iald (pc' := 45) (dk_at dkX0_putAt 25 rfl) hP.order (i - 1) (by omega) (by omega) (by decide) rfl ?_
      refine r_iast (pc' := 46) (dk_at dkX0_putAt 26 rfl) hP.order i (by omega) (by omega) (by decide) rfl (fun hh1 ehh1 => ?_)
      have hP := hP.w_order ehh1
      have hF := hF.put ehh1 (by omega)
      refine q_iinc (pc' := 49) (L' := [some (vR p), some (vI (place : Int)), some (vI job), some (vI ((i : Int) + (-1)))]) (dk_at dkX0_putAt 27 rfl) (by decide) rfl rfl rfl ?_
      rw [show ((i : Int) + (-1)) = ((i - 1 : Nat) : Int) by omega]
      refine q_goto (tgt := 27) (dk_at dkX0_putAt 28 rfl) rfl ?_
      exact ih (i - 1) _ _ (by omega) (by omega) (putAt_step (by omega) hi ho) hP hF

set_option maxHeartbeats 4000000 in
set_option maxRecDepth 100000 in
theorem k_Plan_putAt {d n : Nat} {h : PH} {p size bc place : Nat} {o e : Nat → Int} {job : Int} (hP : isPlan n h p (size : Int) (bc : Int) o e) (hs : size < 8) (hpl : place ≤ size) : CtrV mX0_putAt d [vR p, vI (place : Int), vI job] n h (fun h' => ∃ o', isPlan n h' p ((size : Int) + 1) (bc : Int) o' e ∧ (∀ j, o' j = insz o size place job j) ∧ Fr h h' p (p + 3)) := by
  have hF : Fr h h p (p + 3) := Fr.rf
  refine q_beginV (L := [some (vR p), some (vI (place : Int)), some (vI job), none]) rfl ?_
  refine q_aload_n (pc' := 1) (dk_at dkX0_putAt 0 rfl) rfl rfl ?_
  refine r_getf (pc' := 4) fl_RX0_18 (dk_at dkX0_putAt 1 rfl) hP.obj rfl rfl ?_
  refine q_bipush (pc' := 6) (dk_at dkX0_putAt 2 rfl) (by decide +kernel) rfl ?_
  refine q_icmp_ge (tgt := 21) (pc' := 9) (dk_at dkX0_putAt 3 rfl) rfl rfl (by omega) (by omega) (fun c6 => ?_) (fun c6 => ?_)
  · exfalso
    omega
  · refine q_iload_n (pc' := 10) (dk_at dkX0_putAt 4 rfl) rfl rfl ?_
    refine q_if_lt (tgt := 21) (pc' := 13) (dk_at dkX0_putAt 5 rfl) rfl rfl (by omega) (fun c10 => ?_) (fun c10 => ?_)
    · exfalso
      omega
    · refine q_iload_n (pc' := 14) (dk_at dkX0_putAt 6 rfl) rfl rfl ?_
      refine q_aload_n (pc' := 15) (dk_at dkX0_putAt 7 rfl) rfl rfl ?_
      refine r_getf (pc' := 18) fl_RX0_18 (dk_at dkX0_putAt 8 rfl) hP.obj rfl rfl ?_
      refine q_icmp_le (tgt := 22) (pc' := 21) (dk_at dkX0_putAt 9 rfl) rfl rfl (by omega) (by omega) (fun c18 => ?_) (fun c18 => ?_)
      · refine q_aload_n (pc' := 23) (dk_at dkX0_putAt 11 rfl) rfl rfl ?_
        refine r_getf (pc' := 26) fl_RX0_18 (dk_at dkX0_putAt 12 rfl) hP.obj rfl rfl ?_
        refine q_istore_n (pc' := 27) (L' := [some (vR p), some (vI (place : Int)), some (vI job), some (vI (size : Int))]) (dk_at dkX0_putAt 13 rfl) (by decide) rfl rfl ?_
        refine l_putAt (o := o) (h := h) hs hpl ?_ (size - place) size o h (by omega) (Nat.le_refl _) (fun j => by rw [if_neg (by omega)]) hP hF
        intro o1 h1 ho hP hF
        refine q_aload_n (pc' := 53) (dk_at dkX0_putAt 29 rfl) rfl rfl ?_
        refine r_getf (pc' := 56) fl_RX0_9 (dk_at dkX0_putAt 30 rfl) hP.obj rfl rfl ?_
        refine q_iload_n (pc' := 57) (dk_at dkX0_putAt 31 rfl) rfl rfl ?_
        refine q_iload_n (pc' := 58) (dk_at dkX0_putAt 32 rfl) rfl rfl ?_
        refine r_iast (pc' := 59) (dk_at dkX0_putAt 33 rfl) hP.order place (by omega) (by omega) (by decide) rfl (fun hh1 ehh1 => ?_)
        have hP := hP.w_order ehh1
        have hF := hF.put ehh1 (by omega)
        refine q_aload_n (pc' := 60) (dk_at dkX0_putAt 34 rfl) rfl rfl ?_
        refine q_aload_n (pc' := 61) (dk_at dkX0_putAt 35 rfl) rfl rfl ?_
        refine r_getf (pc' := 64) fl_RX0_18 (dk_at dkX0_putAt 36 rfl) hP.obj rfl rfl ?_
        refine q_iconst (pc' := 65) (dk_at dkX0_putAt 37 rfl) rfl ?_
        refine q_iadd (pc' := 66) (dk_at dkX0_putAt 38 rfl) rfl ?_
        refine r_putf (pc' := 69) fp_RX0_18 (dk_at dkX0_putAt 39 rfl) hP.obj (Nat.le_of_ble_eq_true rfl) (PT_int _) rfl (fun hh2 ehh2 => ?_)
        have hP := hP.w_obj ehh2
        have hF := hF.put ehh2 (by omega)
        refine r_vret rfl (dk_at dkX0_putAt 40 rfl) ?_
        first | (exfalso; omega; done) | skip
        refine ⟨_, hP, ?_, hF⟩
        intro j
        unfold insz
        by_cases q : j = place
        · subst q
          rw [upz_eq, if_neg (by omega), if_pos rfl]
        · rw [upz_ne q, ho]
          by_cases q2 : place < j ∧ j ≤ size
          · rw [if_pos q2, if_neg (by omega), if_neg (by omega), if_pos (by omega)]
          · rw [if_neg q2]
            by_cases q3 : j < place
            · rw [if_pos q3]
            · rw [if_neg q3, if_neg (by omega), if_neg (by omega)]
      · exfalso
        omega
