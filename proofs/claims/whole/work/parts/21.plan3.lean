/-! Plan: groups, drops, moves; Shop: drops -/
/-- how many groups the first i places make, and where they end; g: the family at a place -/
def grB (g : Nat → Int) : Nat → Nat
  | 0 => 0
  | i + 1 => if i = 0 ∨ g i ≠ g (i - 1) then grB g i + 1 else grB g i
def grE (g : Nat → Int) (e : Nat → Int) : Nat → Nat → Int
  | 0 => e
  | i + 1 => upz (grE g e i) (grB g (i + 1) - 1) ((i : Int) + 1)
theorem grB_le (g : Nat → Int) : ∀ i, grB g i ≤ i
  | 0 => Nat.le_refl _
  | i + 1 => by
    have := grB_le g i
    unfold grB
    split <;> omega
theorem grB_pos (g : Nat → Int) : ∀ i, 0 < i → 0 < grB g i
  | 0, h => by omega
  | i + 1, _ => by
    unfold grB
    split
    · omega
    · have := grB_pos g i (by omega)
      omega
set_option maxHeartbeats 4000000 in
set_option maxRecDepth 100000 in
theorem l_group {d n : Nat} {h : PH} {p s size : Nat} {S : Shp} {o e : Nat → Int} (hV : Vok S.V) (hO : ∀ j, 0 ≤ o j ∧ o j ≤ 7) (hs8 : size ≤ 8) (hps : p + 3 ≤ s ∨ s + 13 ≤ p) : ∀ (c : Nat) (i bc : Nat) (e1 : Nat → Int) (h1 : PH), (i + c = size) → (bc = grB (fun k => S.V 0 (o k).toNat) i) → (e1 = grE (fun k => S.V 0 (o k).toNat) e i) → (isPlan n h1 p (size : Int) (bc : Int) o e1) → (isShop n h1 s (S.cnt : Int) S.V S.T S.wh S.er S.ob) → (Fr h h1 p (p + 3)) → QN mX0_groupByFamily d (FV n (fun h' => isPlan n h' p (size : Int) ((grB (fun k => S.V 0 (o k).toNat) size : Nat) : Int) o (grE (fun k => S.V 0 (o k).toNat) e size) ∧ Fr h h' p (p + 3))) 14 [some (vR p), some (vR s), some (vR (s + 2 + 0)), some (vI (i : Int))] [] n h1 := by
  intro c
  induction c with
  | zero =>
    intro i bc e1 h1 hc hb he hP hS hF
    have hbl : bc ≤ i := by rw [hb]; exact grB_le _ _
    refine q_iload_n (pc' := 15) (dk_at dkX0_groupByFamily 10 rfl) rfl rfl ?_
    refine q_aload_n (pc' := 16) (dk_at dkX0_groupByFamily 11 rfl) rfl rfl ?_
    refine r_getf (pc' := 19) fl_RX0_18 (dk_at dkX0_groupByFamily 12 rfl) hP.obj rfl rfl ?_
    refine q_icmp_ge (tgt := 77) (pc' := 22) (dk_at dkX0_groupByFamily 13 rfl) rfl rfl (by omega) (by omega) (fun c19 => ?_) (fun c19 => ?_)
    · refine r_vret rfl (dk_at dkX0_groupByFamily 49 rfl) ?_
      exact ⟨by rw [show i = size by omega] at hb he; rw [← hb, ← he]; exact hP, hF⟩
    · exfalso
      omega
  | succ c ih =>
    intro i bc e1 h1 hc hb he hP hS hF
    have hbl : bc ≤ i := by rw [hb]; exact grB_le _ _
    have hbq : 0 < i → 0 < bc := by rw [hb]; exact grB_pos _ _
    refine q_iload_n (pc' := 15) (dk_at dkX0_groupByFamily 10 rfl) rfl rfl ?_
    refine q_aload_n (pc' := 16) (dk_at dkX0_groupByFamily 11 rfl) rfl rfl ?_
    refine r_getf (pc' := 19) fl_RX0_18 (dk_at dkX0_groupByFamily 12 rfl) hP.obj rfl rfl ?_
    refine q_icmp_ge (tgt := 77) (pc' := 22) (dk_at dkX0_groupByFamily 13 rfl) rfl rfl (by omega) (by omega) (fun c19 => ?_) (fun c19 => ?_)
    · refine r_vret rfl (dk_at dkX0_groupByFamily 49 rfl) ?_
      exact ⟨by rw [show i = size by omega] at hb he; rw [← hb, ← he]; exact hP, hF⟩
    · refine q_iload_n (pc' := 23) (dk_at dkX0_groupByFamily 14 rfl) rfl rfl ?_
      refine q_if_eq (tgt := 47) (pc' := 26) (dk_at dkX0_groupByFamily 15 rfl) rfl rfl (by omega) (fun c23 => ?_) (fun c23 => ?_)
      · refine q_aload_n (pc' := 48) (dk_at dkX0_groupByFamily 31 rfl) rfl rfl ?_
        refine q_aload_n (pc' := 49) (dk_at dkX0_groupByFamily 32 rfl) rfl rfl ?_
        refine r_getf (pc' := 52) fl_RX0_22 (dk_at dkX0_groupByFamily 33 rfl) hP.obj rfl rfl ?_
        refine q_iconst (pc' := 53) (dk_at dkX0_groupByFamily 34 rfl) rfl ?_
        refine q_iadd (pc' := 54) (dk_at dkX0_groupByFamily 35 rfl) rfl ?_
        refine r_putf (pc' := 57) fp_RX0_22 (dk_at dkX0_groupByFamily 36 rfl) hP.obj (Nat.le_of_ble_eq_true rfl) (PT_int _) rfl (fun hh1 ehh1 => ?_)
        have hS := hS.off ehh1 (by omega)
        have hP := hP.w_obj ehh1
        have hF := hF.put ehh1 (by omega)
        refine q_aload_n (pc' := 58) (dk_at dkX0_groupByFamily 37 rfl) rfl rfl ?_
        refine r_getf (pc' := 61) fl_RX0_15 (dk_at dkX0_groupByFamily 38 rfl) hP.obj rfl rfl ?_
        refine q_aload_n (pc' := 62) (dk_at dkX0_groupByFamily 39 rfl) rfl rfl ?_
        refine r_getf (pc' := 65) fl_RX0_22 (dk_at dkX0_groupByFamily 40 rfl) hP.obj rfl rfl ?_
        refine q_iconst (pc' := 66) (dk_at dkX0_groupByFamily 41 rfl) rfl ?_
        refine q_isub (pc' := 67) (dk_at dkX0_groupByFamily 42 rfl) rfl ?_
        refine q_iload_n (pc' := 68) (dk_at dkX0_groupByFamily 43 rfl) rfl rfl ?_
        refine q_iconst (pc' := 69) (dk_at dkX0_groupByFamily 44 rfl) rfl ?_
        refine q_iadd (pc' := 70) (dk_at dkX0_groupByFamily 45 rfl) rfl ?_
        refine r_iast (pc' := 71) (dk_at dkX0_groupByFamily 46 rfl) hP.ends ((bc + 1) - 1) (by omega) (by omega) (by decide) rfl (fun hh2 ehh2 => ?_)
        have hS := hS.off ehh2 (by omega)
        have hP := hP.w_ends ehh2
        have hF := hF.put ehh2 (by omega)
        refine q_iinc (pc' := 74) (L' := [some (vR p), some (vR s), some (vR (s + 2 + 0)), some (vI ((i : Int) + 1))]) (dk_at dkX0_groupByFamily 47 rfl) (by decide) rfl rfl rfl ?_
        rw [show ((i : Int) + 1) = ((i + 1 : Nat) : Int) by omega]
        refine q_goto (tgt := 14) (dk_at dkX0_groupByFamily 48 rfl) rfl ?_
        have hg : grB (fun k => S.V 0 (o k).toNat) (i + 1) = _ := rfl
        have hst : (((bc : Int) + 1) : Int) = ((grB (fun k => S.V 0 (o k).toNat) (i + 1) : Nat) : Int) := by
          unfold grB
          first | rw [if_pos (by first | omega | (right; show S.V 0 (o i).toNat ≠ S.V 0 (o (i - 1)).toNat; omega))] | rw [if_neg (by intro q; rcases q with q | q; omega; exact q (by show S.V 0 (o i).toNat = S.V 0 (o (i - 1)).toNat; omega))]
          omega
        have hbp := grB_pos (fun k => S.V 0 (o k).toNat) (i + 1) (by omega)
        refine ih (i + 1) (grB (fun k => S.V 0 (o k).toNat) (i + 1)) _ _ (by omega) rfl ?_ (by rw [← hst]; exact hP) hS hF
        rw [he]
        show upz _ _ _ = upz _ _ _
        congr 1
        omega
      · refine q_aload_n (pc' := 27) (dk_at dkX0_groupByFamily 16 rfl) rfl rfl ?_
        refine q_aload_n (pc' := 28) (dk_at dkX0_groupByFamily 17 rfl) rfl rfl ?_
        refine r_getf (pc' := 31) fl_RX0_9 (dk_at dkX0_groupByFamily 18 rfl) hP.obj rfl rfl ?_
        refine q_iload_n (pc' := 32) (dk_at dkX0_groupByFamily 19 rfl) rfl rfl ?_
        refine r_iald (pc' := 33) (dk_at dkX0_groupByFamily 20 rfl) hP.order i (by omega) (by omega) (by decide) rfl ?_
        have bb3 := hO i
        refine r_iald (pc' := 34) (dk_at dkX0_groupByFamily 21 rfl) (hS.values_at 0 (by omega)) (((o i)).toNat) (by omega) (by omega) (by decide) rfl ?_
        have bb4 := hV 0 (((o i)).toNat)
        refine q_aload_n (pc' := 35) (dk_at dkX0_groupByFamily 22 rfl) rfl rfl ?_
        refine q_aload_n (pc' := 36) (dk_at dkX0_groupByFamily 23 rfl) rfl rfl ?_
        refine r_getf (pc' := 39) fl_RX0_9 (dk_at dkX0_groupByFamily 24 rfl) hP.obj rfl rfl ?_
        refine q_iload_n (pc' := 40) (dk_at dkX0_groupByFamily 25 rfl) rfl rfl ?_
        refine q_iconst (pc' := 41) (dk_at dkX0_groupByFamily 26 rfl) rfl ?_
        refine q_isub (pc' := 42) (dk_at dkX0_groupByFamily 27 rfl) rfl ?_
        refine r_iald (pc' := 43) (dk_at dkX0_groupByFamily 28 rfl) hP.order (i - 1) (by omega) (by omega) (by decide) rfl ?_
        have bb5 := hO (i - 1)
        refine r_iald (pc' := 44) (dk_at dkX0_groupByFamily 29 rfl) (hS.values_at 0 (by omega)) (((o (i - 1))).toNat) (by omega) (by omega) (by decide) rfl ?_
        have bb6 := hV 0 (((o (i - 1))).toNat)
        refine q_icmp_eq (tgt := 57) (pc' := 47) (dk_at dkX0_groupByFamily 30 rfl) rfl rfl (by omega) (by omega) (fun c44 => ?_) (fun c44 => ?_)
        · refine q_aload_n (pc' := 58) (dk_at dkX0_groupByFamily 37 rfl) rfl rfl ?_
          refine r_getf (pc' := 61) fl_RX0_15 (dk_at dkX0_groupByFamily 38 rfl) hP.obj rfl rfl ?_
          refine q_aload_n (pc' := 62) (dk_at dkX0_groupByFamily 39 rfl) rfl rfl ?_
          refine r_getf (pc' := 65) fl_RX0_22 (dk_at dkX0_groupByFamily 40 rfl) hP.obj rfl rfl ?_
          refine q_iconst (pc' := 66) (dk_at dkX0_groupByFamily 41 rfl) rfl ?_
          refine q_isub (pc' := 67) (dk_at dkX0_groupByFamily 42 rfl) rfl ?_
          refine q_iload_n (pc' := 68) (dk_at dkX0_groupByFamily 43 rfl) rfl rfl ?_
          refine q_iconst (pc' := 69) (dk_at dkX0_groupByFamily 44 rfl) rfl ?_
          refine q_iadd (pc' := 70) (dk_at dkX0_groupByFamily 45 rfl) rfl ?_
          refine r_iast (pc' := 71) (dk_at dkX0_groupByFamily 46 rfl) hP.ends (bc - 1) (by omega) (by omega) (by decide) rfl (fun hh7 ehh7 => ?_)
          have hS := hS.off ehh7 (by omega)
          have hP := hP.w_ends ehh7
          have hF := hF.put ehh7 (by omega)
          refine q_iinc (pc' := 74) (L' := [some (vR p), some (vR s), some (vR (s + 2 + 0)), some (vI ((i : Int) + 1))]) (dk_at dkX0_groupByFamily 47 rfl) (by decide) rfl rfl rfl ?_
          rw [show ((i : Int) + 1) = ((i + 1 : Nat) : Int) by omega]
          refine q_goto (tgt := 14) (dk_at dkX0_groupByFamily 48 rfl) rfl ?_
          have hg : grB (fun k => S.V 0 (o k).toNat) (i + 1) = _ := rfl
          have hst : ((bc : Int) : Int) = ((grB (fun k => S.V 0 (o k).toNat) (i + 1) : Nat) : Int) := by
            unfold grB
            first | rw [if_pos (by first | omega | (right; show S.V 0 (o i).toNat ≠ S.V 0 (o (i - 1)).toNat; omega))] | rw [if_neg (by intro q; rcases q with q | q; omega; exact q (by show S.V 0 (o i).toNat = S.V 0 (o (i - 1)).toNat; omega))]
            omega
          have hbp := grB_pos (fun k => S.V 0 (o k).toNat) (i + 1) (by omega)
          refine ih (i + 1) (grB (fun k => S.V 0 (o k).toNat) (i + 1)) _ _ (by omega) rfl ?_ (by rw [← hst]; exact hP) hS hF
          rw [he]
          show upz _ _ _ = upz _ _ _
          congr 1
          omega
        · refine q_aload_n (pc' := 48) (dk_at dkX0_groupByFamily 31 rfl) rfl rfl ?_
          refine q_aload_n (pc' := 49) (dk_at dkX0_groupByFamily 32 rfl) rfl rfl ?_
          refine r_getf (pc' := 52) fl_RX0_22 (dk_at dkX0_groupByFamily 33 rfl) hP.obj rfl rfl ?_
          refine q_iconst (pc' := 53) (dk_at dkX0_groupByFamily 34 rfl) rfl ?_
          refine q_iadd (pc' := 54) (dk_at dkX0_groupByFamily 35 rfl) rfl ?_
          refine r_putf (pc' := 57) fp_RX0_22 (dk_at dkX0_groupByFamily 36 rfl) hP.obj (Nat.le_of_ble_eq_true rfl) (PT_int _) rfl (fun hh8 ehh8 => ?_)
          have hS := hS.off ehh8 (by omega)
          have hP := hP.w_obj ehh8
          have hF := hF.put ehh8 (by omega)
          refine q_aload_n (pc' := 58) (dk_at dkX0_groupByFamily 37 rfl) rfl rfl ?_
          refine r_getf (pc' := 61) fl_RX0_15 (dk_at dkX0_groupByFamily 38 rfl) hP.obj rfl rfl ?_
          refine q_aload_n (pc' := 62) (dk_at dkX0_groupByFamily 39 rfl) rfl rfl ?_
          refine r_getf (pc' := 65) fl_RX0_22 (dk_at dkX0_groupByFamily 40 rfl) hP.obj rfl rfl ?_
          refine q_iconst (pc' := 66) (dk_at dkX0_groupByFamily 41 rfl) rfl ?_
          refine q_isub (pc' := 67) (dk_at dkX0_groupByFamily 42 rfl) rfl ?_
          refine q_iload_n (pc' := 68) (dk_at dkX0_groupByFamily 43 rfl) rfl rfl ?_
          refine q_iconst (pc' := 69) (dk_at dkX0_groupByFamily 44 rfl) rfl ?_
          refine q_iadd (pc' := 70) (dk_at dkX0_groupByFamily 45 rfl) rfl ?_
          refine r_iast (pc' := 71) (dk_at dkX0_groupByFamily 46 rfl) hP.ends ((bc + 1) - 1) (by omega) (by omega) (by decide) rfl (fun hh9 ehh9 => ?_)
          have hS := hS.off ehh9 (by omega)
          have hP := hP.w_ends ehh9
          have hF := hF.put ehh9 (by omega)
          refine q_iinc (pc' := 74) (L' := [some (vR p), some (vR s), some (vR (s + 2 + 0)), some (vI ((i : Int) + 1))]) (dk_at dkX0_groupByFamily 47 rfl) (by decide) rfl rfl rfl ?_
          rw [show ((i : Int) + 1) = ((i + 1 : Nat) : Int) by omega]
          refine q_goto (tgt := 14) (dk_at dkX0_groupByFamily 48 rfl) rfl ?_
          have hg : grB (fun k => S.V 0 (o k).toNat) (i + 1) = _ := rfl
          have hst : (((bc : Int) + 1) : Int) = ((grB (fun k => S.V 0 (o k).toNat) (i + 1) : Nat) : Int) := by
            unfold grB
            first | rw [if_pos (by first | omega | (right; show S.V 0 (o i).toNat ≠ S.V 0 (o (i - 1)).toNat; omega))] | rw [if_neg (by intro q; rcases q with q | q; omega; exact q (by show S.V 0 (o i).toNat = S.V 0 (o (i - 1)).toNat; omega))]
            omega
          have hbp := grB_pos (fun k => S.V 0 (o k).toNat) (i + 1) (by omega)
          refine ih (i + 1) (grB (fun k => S.V 0 (o k).toNat) (i + 1)) _ _ (by omega) rfl ?_ (by rw [← hst]; exact hP) hS hF
          rw [he]
          show upz _ _ _ = upz _ _ _
          congr 1
          omega

set_option maxHeartbeats 4000000 in
set_option maxRecDepth 100000 in
theorem k_Plan_groupByFamily {d n : Nat} {h : PH} {p s size : Nat} {S : Shp} {bc : Int} {o e : Nat → Int} (hV : Vok S.V) (hO : ∀ j, 0 ≤ o j ∧ o j ≤ 7) (hs8 : size ≤ 8) (hps : p + 3 ≤ s ∨ s + 13 ≤ p) (hS : isShp n h s S) (hP : isPlan n h p (size : Int) bc o e) : CtrV mX0_groupByFamily d [vR p, vR s] n h (fun h' => isPlan n h' p (size : Int) ((grB (fun k => S.V 0 (o k).toNat) size : Nat) : Int) o (grE (fun k => S.V 0 (o k).toNat) e size) ∧ Fr h h' p (p + 3)) := by
  unfold isShp at hS
  have hF : Fr h h p (p + 3) := Fr.rf
  refine q_beginV (L := [some (vR p), some (vR s), none, none]) rfl ?_
  refine q_aload_n (pc' := 1) (dk_at dkX0_groupByFamily 0 rfl) rfl rfl ?_
  refine r_getf (pc' := 4) fl_RX0_42 (dk_at dkX0_groupByFamily 1 rfl) hS.obj rfl rfl ?_
  refine q_iconst (pc' := 5) (dk_at dkX0_groupByFamily 2 rfl) rfl ?_
  refine r_aald1 (pc' := 6) (dk_at dkX0_groupByFamily 3 rfl) hS.values 0 (by omega) (by omega) (by decide) rfl ?_
  refine q_astore_n (pc' := 7) (L' := [some (vR p), some (vR s), some (vR ((s + 2) + 0)), none]) (dk_at dkX0_groupByFamily 4 rfl) (by decide) rfl rfl ?_
  refine q_aload_n (pc' := 8) (dk_at dkX0_groupByFamily 5 rfl) rfl rfl ?_
  refine q_iconst (pc' := 9) (dk_at dkX0_groupByFamily 6 rfl) rfl ?_
  refine r_putf (pc' := 12) fp_RX0_22 (dk_at dkX0_groupByFamily 7 rfl) hP.obj (Nat.le_of_ble_eq_true rfl) (PT_int _) rfl (fun hh1 ehh1 => ?_)
  have hS := hS.off ehh1 (by omega)
  have hP := hP.w_obj ehh1
  have hF := hF.put ehh1 (by omega)
  refine q_iconst (pc' := 13) (dk_at dkX0_groupByFamily 8 rfl) rfl ?_
  refine q_istore_n (pc' := 14) (L' := [some (vR p), some (vR s), some (vR ((s + 2) + 0)), some (vI 0)]) (dk_at dkX0_groupByFamily 9 rfl) (by decide) rfl rfl ?_
  exact l_group hV hO hs8 hps size 0 0 e _ (by omega) rfl rfl hP hS hF

/-- the places left when a job is dropped: how many of the first i, and the row -/
def fN (o : Nat → Int) (job : Int) : Nat → Nat
  | 0 => 0
  | i + 1 => if o i = job then fN o job i else fN o job i + 1
def fO (o : Nat → Int) (job : Int) : Nat → Nat → Int
  | 0 => o
  | i + 1 => if o i = job then fO o job i else upz (fO o job i) (fN o job i) (o i)
theorem fN_le (o : Nat → Int) (job : Int) : ∀ i, fN o job i ≤ i
  | 0 => Nat.le_refl _
  | i + 1 => by
    have := fN_le o job i
    unfold fN
    split <;> omega
theorem fO_hi (o : Nat → Int) (job : Int) : ∀ i j, i ≤ j → fO o job i j = o j
  | 0, j, _ => rfl
  | i + 1, j, h => by
    have h1 := fO_hi o job i j (by omega)
    have h2 := fN_le o job i
    unfold fO
    split
    · exact h1
    · rw [upz_ne (by omega)]
      exact h1
theorem fO_r {o : Nat → Int} {job lo hi : Int} (ho : ∀ j, lo ≤ o j ∧ o j ≤ hi) : ∀ i j, lo ≤ fO o job i j ∧ fO o job i j ≤ hi
  | 0, j => ho j
  | i + 1, j => by
    have h1 := fO_r (job := job) ho i j
    unfold fO
    split
    · exact h1
    · unfold upz
      split
      · exact ho i
      · exact h1
set_option maxHeartbeats 4000000 in
set_option maxRecDepth 100000 in
theorem l_dropO {d n : Nat} {h : PH} {p size : Nat} {bc : Int} {o e : Nat → Int} {job : Int} (hO : ∀ j, 0 ≤ o j ∧ o j ≤ 7) (hs8 : size ≤ 8) (hj : IR job) : ∀ (c : Nat) (i l : Nat) (o1 : Nat → Int) (h1 : PH), (i + c = size) → (l = fN o job i) → (o1 = fO o job i) → (isPlan n h1 p (size : Int) bc o1 e) → (Fr h h1 p (p + 3)) → QN mX0_dropJobFromOrder d (FV n (fun h' => isPlan n h' p ((fN o job size : Nat) : Int) bc (fO o job size) e ∧ Fr h h' p (p + 3))) 4 [some (vR p), some (vI job), some (vI (l : Int)), some (vI (i : Int))] [] n h1 := by
  intro c
  induction c with
  | zero =>
    intro i l o1 h1 hc hl ho hP hF
    refine q_iload_n (pc' := 5) (dk_at dkX0_dropJobFromOrder 4 rfl) rfl rfl ?_
    refine q_aload_n (pc' := 6) (dk_at dkX0_dropJobFromOrder 5 rfl) rfl rfl ?_
    refine r_getf (pc' := 9) fl_RX0_18 (dk_at dkX0_dropJobFromOrder 6 rfl) hP.obj rfl rfl ?_
    refine q_icmp_ge (tgt := 43) (pc' := 12) (dk_at dkX0_dropJobFromOrder 7 rfl) rfl rfl (by omega) (by omega) (fun c9 => ?_) (fun c9 => ?_)
    · refine q_aload_n (pc' := 44) (dk_at dkX0_dropJobFromOrder 25 rfl) rfl rfl ?_
      refine q_iload_n (pc' := 45) (dk_at dkX0_dropJobFromOrder 26 rfl) rfl rfl ?_
      refine r_putf (pc' := 48) fp_RX0_18 (dk_at dkX0_dropJobFromOrder 27 rfl) hP.obj (Nat.le_of_ble_eq_true rfl) (PT_int _) rfl (fun hh1 ehh1 => ?_)
      have hP := hP.w_obj ehh1
      have hF := hF.put ehh1 (by omega)
      refine r_vret rfl (dk_at dkX0_dropJobFromOrder 28 rfl) ?_
      exact ⟨by rw [show i = size by omega] at hl ho; rw [← hl, ← ho]; exact hP, hF⟩
    · exfalso
      omega
  | succ c ih =>
    intro i l o1 h1 hc hl ho hP hF
    refine q_iload_n (pc' := 5) (dk_at dkX0_dropJobFromOrder 4 rfl) rfl rfl ?_
    refine q_aload_n (pc' := 6) (dk_at dkX0_dropJobFromOrder 5 rfl) rfl rfl ?_
    refine r_getf (pc' := 9) fl_RX0_18 (dk_at dkX0_dropJobFromOrder 6 rfl) hP.obj rfl rfl ?_
    refine q_icmp_ge (tgt := 43) (pc' := 12) (dk_at dkX0_dropJobFromOrder 7 rfl) rfl rfl (by omega) (by omega) (fun c9 => ?_) (fun c9 => ?_)
    · refine q_aload_n (pc' := 44) (dk_at dkX0_dropJobFromOrder 25 rfl) rfl rfl ?_
      refine q_iload_n (pc' := 45) (dk_at dkX0_dropJobFromOrder 26 rfl) rfl rfl ?_
      refine r_putf (pc' := 48) fp_RX0_18 (dk_at dkX0_dropJobFromOrder 27 rfl) hP.obj (Nat.le_of_ble_eq_true rfl) (PT_int _) rfl (fun hh1 ehh1 => ?_)
      have hP := hP.w_obj ehh1
      have hF := hF.put ehh1 (by omega)
      refine r_vret rfl (dk_at dkX0_dropJobFromOrder 28 rfl) ?_
      exact ⟨by rw [show i = size by omega] at hl ho; rw [← hl, ← ho]; exact hP, hF⟩
    · have ei := ho ▸ fO_hi o job i i (Nat.le_refl _)
      have hr1 : ∀ j, 0 ≤ o1 j ∧ o1 j ≤ 7 := fun j => by rw [ho]; exact fO_r hO i j
      have hlb : l ≤ i := by rw [hl]; exact fN_le _ _ _
      refine q_aload_n (pc' := 13) (dk_at dkX0_dropJobFromOrder 8 rfl) rfl rfl ?_
      refine r_getf (pc' := 16) fl_RX0_9 (dk_at dkX0_dropJobFromOrder 9 rfl) hP.obj rfl rfl ?_
      refine q_iload_n (pc' := 17) (dk_at dkX0_dropJobFromOrder 10 rfl) rfl rfl ?_
      refine r_iald (pc' := 18) (dk_at dkX0_dropJobFromOrder 11 rfl) hP.order i (by omega) (by omega) (by decide) rfl ?_
      have bb2 := hr1 i
      refine q_iload_n (pc' := 19) (dk_at dkX0_dropJobFromOrder 12 rfl) rfl rfl ?_
      refine q_icmp_eq (tgt := 37) (pc' := 22) (dk_at dkX0_dropJobFromOrder 13 rfl) rfl rfl (by omega) (by omega) (fun c19 => ?_) (fun c19 => ?_)
      · refine q_iinc (pc' := 40) (L' := [some (vR p), some (vI job), some (vI (l : Int)), some (vI ((i : Int) + 1))]) (dk_at dkX0_dropJobFromOrder 23 rfl) (by decide) rfl rfl rfl ?_
        rw [show ((i : Int) + 1) = ((i + 1 : Nat) : Int) by omega]
        refine q_goto (tgt := 4) (dk_at dkX0_dropJobFromOrder 24 rfl) rfl ?_
        refine ih (i + 1) _ _ _ (by omega) ?_ ?_ hP hF
        · unfold fN; first | rw [if_pos (by omega), hl] | rw [if_neg (by omega), hl]
        · unfold fO; first | rw [if_pos (by omega), ho] | rw [if_neg (by omega), ← hl, ← ho, ei]
      · refine q_aload_n (pc' := 23) (dk_at dkX0_dropJobFromOrder 14 rfl) rfl rfl ?_
        refine r_getf (pc' := 26) fl_RX0_9 (dk_at dkX0_dropJobFromOrder 15 rfl) hP.obj rfl rfl ?_
        refine q_iload_n (pc' := 27) (dk_at dkX0_dropJobFromOrder 16 rfl) rfl rfl ?_
        refine q_aload_n (pc' := 28) (dk_at dkX0_dropJobFromOrder 17 rfl) rfl rfl ?_
        refine r_getf (pc' := 31) fl_RX0_9 (dk_at dkX0_dropJobFromOrder 18 rfl) hP.obj rfl rfl ?_
        refine q_iload_n (pc' := 32) (dk_at dkX0_dropJobFromOrder 19 rfl) rfl rfl ?_
        refine r_iald (pc' := 33) (dk_at dkX0_dropJobFromOrder 20 rfl) hP.order i (by omega) (by omega) (by decide) rfl ?_
        have bb3 := hr1 i
        refine r_iast (pc' := 34) (dk_at dkX0_dropJobFromOrder 21 rfl) hP.order l (by omega) (by omega) (by decide) rfl (fun hh4 ehh4 => ?_)
        have hP := hP.w_order ehh4
        have hF := hF.put ehh4 (by omega)
        refine q_iinc (pc' := 37) (L' := [some (vR p), some (vI job), some (vI ((l : Int) + 1)), some (vI (i : Int))]) (dk_at dkX0_dropJobFromOrder 22 rfl) (by decide) rfl rfl rfl ?_
        rw [show ((l : Int) + 1) = ((l + 1 : Nat) : Int) by omega]
        refine q_iinc (pc' := 40) (L' := [some (vR p), some (vI job), some (vI ((l + 1 : Nat) : Int)), some (vI ((i : Int) + 1))]) (dk_at dkX0_dropJobFromOrder 23 rfl) (by decide) rfl rfl rfl ?_
        rw [show ((i : Int) + 1) = ((i + 1 : Nat) : Int) by omega]
        refine q_goto (tgt := 4) (dk_at dkX0_dropJobFromOrder 24 rfl) rfl ?_
        refine ih (i + 1) _ _ _ (by omega) ?_ ?_ hP hF
        · unfold fN; first | rw [if_pos (by omega), hl] | rw [if_neg (by omega), hl]
        · unfold fO; first | rw [if_pos (by omega), ho] | rw [if_neg (by omega), ← hl, ← ho, ei]

set_option maxHeartbeats 4000000 in
set_option maxRecDepth 100000 in
theorem k_Plan_dropJobFromOrder {d n : Nat} {h : PH} {p size : Nat} {bc : Int} {o e : Nat → Int} {job : Int} (hO : ∀ j, 0 ≤ o j ∧ o j ≤ 7) (hs8 : size ≤ 8) (hj : IR job) (hP : isPlan n h p (size : Int) bc o e) : CtrV mX0_dropJobFromOrder d [vR p, vI job] n h (fun h' => isPlan n h' p ((fN o job size : Nat) : Int) bc (fO o job size) e ∧ Fr h h' p (p + 3)) := by
  refine q_beginV (L := [some (vR p), some (vI job), none, none]) rfl ?_
  refine q_iconst (pc' := 1) (dk_at dkX0_dropJobFromOrder 0 rfl) rfl ?_
  refine q_istore_n (pc' := 2) (L' := [some (vR p), some (vI job), some (vI 0), none]) (dk_at dkX0_dropJobFromOrder 1 rfl) (by decide) rfl rfl ?_
  refine q_iconst (pc' := 3) (dk_at dkX0_dropJobFromOrder 2 rfl) rfl ?_
  refine q_istore_n (pc' := 4) (L' := [some (vR p), some (vI job), some (vI 0), some (vI 0)]) (dk_at dkX0_dropJobFromOrder 3 rfl) (by decide) rfl rfl ?_
  exact l_dropO hO hs8 hj size 0 0 o h (by omega) rfl rfl hP Fr.rf

/-- place i's job moved to place t -/
def mvz (o : Nat → Int) (i t : Nat) : Nat → Int := fun k => if k = t then o i else if (if k < t then k else k - 1) < i then o (if k < t then k else k - 1) else o ((if k < t then k else k - 1) + 1)
/-- the row without place i -/
def skz (o : Nat → Int) (i : Nat) : Nat → Int := fun k => if k < i then o k else o (k + 1)
set_option maxHeartbeats 4000000 in
set_option maxRecDepth 100000 in
theorem l_moved {d n : Nat} {h : PH} {p q m fr to : Nat} {bc2 : Int} {e o2 e2 : Nat → Int} (hd : 1 ≤ d) (hO2 : ∀ j, 0 ≤ o2 j ∧ o2 j ≤ 7) (hm8 : m ≤ 8) (hfr : fr < m) (hto : to < m) (hpq : p + 3 ≤ q ∨ q + 3 ≤ p) : ∀ (c : Nat) (i sz : Nat) (o1 : Nat → Int) (h1 : PH), (i + c = m) → (sz ≤ i ∧ (i ≤ fr → sz = i) ∧ (fr < i → sz + 1 = i)) → ((∀ k, k < sz → o1 k = skz o2 fr k)) → (∀ j, 0 ≤ o1 j ∧ o1 j ≤ 7) → (isPlan n h1 p (sz : Int) 0 o1 e) → (isPlan n h1 q (m : Int) bc2 o2 e2) → (Fr h h1 p (p + 3)) → QN mX0_takeMoved d (FV n (fun h' => ∃ (o' e' : Nat → Int), isPlan n h' p (m : Int) 0 o' e' ∧ (∀ k, k < m → o' k = mvz o2 fr to k) ∧ (∀ j, 0 ≤ o' j ∧ o' j ≤ 7) ∧ Fr h h' p (p + 3))) 7 [some (vR p), some (vR q), some (vI (fr : Int)), some (vI (to : Int)), some (vI (i : Int))] [] n h1 := by
  intro c
  induction c with
  | zero =>
    intro i sz o1 h1 hc hzb ho1 hr1 hP hQ hF
    refine q_iload (pc' := 9) (dk_at dkX0_takeMoved 4 rfl) rfl rfl ?_
    refine q_aload_n (pc' := 10) (dk_at dkX0_takeMoved 5 rfl) rfl rfl ?_
    refine r_getf (pc' := 13) fl_RX0_18 (dk_at dkX0_takeMoved 6 rfl) hQ.obj rfl rfl ?_
    refine q_icmp_ge (tgt := 43) (pc' := 16) (dk_at dkX0_takeMoved 7 rfl) rfl rfl (by omega) (by omega) (fun c13 => ?_) (fun c13 => ?_)
    · have hz2 : sz + 1 = m := by omega
      refine q_aload_n (pc' := 44) (dk_at dkX0_takeMoved 21 rfl) rfl rfl ?_
      refine q_iload_n (pc' := 45) (dk_at dkX0_takeMoved 22 rfl) rfl rfl ?_
      refine q_aload_n (pc' := 46) (dk_at dkX0_takeMoved 23 rfl) rfl rfl ?_
      refine r_getf (pc' := 49) fl_RX0_9 (dk_at dkX0_takeMoved 24 rfl) hQ.obj rfl rfl ?_
      refine q_iload_n (pc' := 50) (dk_at dkX0_takeMoved 25 rfl) rfl rfl ?_
      refine r_iald (pc' := 51) (dk_at dkX0_takeMoved 26 rfl) hQ.order fr (by omega) (by omega) (by decide) rfl ?_
      have bb1 := hO2 fr
      refine r_cVV (pc' := 54) (As := [vI (to : Int), vI (o2 fr)]) (S := []) cv_RX0_38 (dk_at dkX0_takeMoved 27 rfl) hP.obj rfl (k_Plan_putAt (d := 0) (place := to) hP (by omega) (by omega)) (by omega) (Nat.zero_le _) (Nat.zero_le _) rfl (Nat.le_of_ble_eq_true rfl) rfl (Nat.le_of_ble_eq_true rfl) rfl (fun hh3 hphh3 => ?_)
      obtain ⟨o3, hP, ho3, hG⟩ := hphh3
      have hF := hF.tr hG (by omega)
      refine r_vret rfl (dk_at dkX0_takeMoved 28 rfl) ?_
      have es : ((sz : Int) + 1) = ((m : Nat) : Int) := by omega
      rw [es] at hP
      refine ⟨o3, _, hP, ?_, (fun j => by rw [ho3]; exact insz_r hr1 (hO2 _) j), hF⟩
      intro k hk
      rw [ho3]
      unfold insz mvz
      by_cases q : k = to
      · rw [if_neg (by omega), if_pos q, if_pos q]
      · rw [if_neg q, if_neg q]
        by_cases q2 : k < to
        · rw [if_pos q2, if_pos q2, ho1 k (by omega)]
          unfold skz
          rfl
        · rw [if_neg q2, if_pos (by omega), if_neg q2, ho1 (k - 1) (by omega)]
          unfold skz
          rfl
    · exfalso
      omega
  | succ c ih =>
    intro i sz o1 h1 hc hzb ho1 hr1 hP hQ hF
    refine q_iload (pc' := 9) (dk_at dkX0_takeMoved 4 rfl) rfl rfl ?_
    refine q_aload_n (pc' := 10) (dk_at dkX0_takeMoved 5 rfl) rfl rfl ?_
    refine r_getf (pc' := 13) fl_RX0_18 (dk_at dkX0_takeMoved 6 rfl) hQ.obj rfl rfl ?_
    refine q_icmp_ge (tgt := 43) (pc' := 16) (dk_at dkX0_takeMoved 7 rfl) rfl rfl (by omega) (by omega) (fun c13 => ?_) (fun c13 => ?_)
    · have hz2 : sz + 1 = m := by omega
      refine q_aload_n (pc' := 44) (dk_at dkX0_takeMoved 21 rfl) rfl rfl ?_
      refine q_iload_n (pc' := 45) (dk_at dkX0_takeMoved 22 rfl) rfl rfl ?_
      refine q_aload_n (pc' := 46) (dk_at dkX0_takeMoved 23 rfl) rfl rfl ?_
      refine r_getf (pc' := 49) fl_RX0_9 (dk_at dkX0_takeMoved 24 rfl) hQ.obj rfl rfl ?_
      refine q_iload_n (pc' := 50) (dk_at dkX0_takeMoved 25 rfl) rfl rfl ?_
      refine r_iald (pc' := 51) (dk_at dkX0_takeMoved 26 rfl) hQ.order fr (by omega) (by omega) (by decide) rfl ?_
      have bb1 := hO2 fr
      refine r_cVV (pc' := 54) (As := [vI (to : Int), vI (o2 fr)]) (S := []) cv_RX0_38 (dk_at dkX0_takeMoved 27 rfl) hP.obj rfl (k_Plan_putAt (d := 0) (place := to) hP (by omega) (by omega)) (by omega) (Nat.zero_le _) (Nat.zero_le _) rfl (Nat.le_of_ble_eq_true rfl) rfl (Nat.le_of_ble_eq_true rfl) rfl (fun hh3 hphh3 => ?_)
      obtain ⟨o3, hP, ho3, hG⟩ := hphh3
      have hF := hF.tr hG (by omega)
      refine r_vret rfl (dk_at dkX0_takeMoved 28 rfl) ?_
      have es : ((sz : Int) + 1) = ((m : Nat) : Int) := by omega
      rw [es] at hP
      refine ⟨o3, _, hP, ?_, (fun j => by rw [ho3]; exact insz_r hr1 (hO2 _) j), hF⟩
      intro k hk
      rw [ho3]
      unfold insz mvz
      by_cases q : k = to
      · rw [if_neg (by omega), if_pos q, if_pos q]
      · rw [if_neg q, if_neg q]
        by_cases q2 : k < to
        · rw [if_pos q2, if_pos q2, ho1 k (by omega)]
          unfold skz
          rfl
        · rw [if_neg q2, if_pos (by omega), if_neg q2, ho1 (k - 1) (by omega)]
          unfold skz
          rfl
    · refine q_iload (pc' := 18) (dk_at dkX0_takeMoved 8 rfl) rfl rfl ?_
      refine q_iload_n (pc' := 19) (dk_at dkX0_takeMoved 9 rfl) rfl rfl ?_
      refine q_icmp_eq (tgt := 37) (pc' := 22) (dk_at dkX0_takeMoved 10 rfl) rfl rfl (by omega) (by omega) (fun c19 => ?_) (fun c19 => ?_)
      · refine q_iinc (pc' := 40) (L' := [some (vR p), some (vR q), some (vI (fr : Int)), some (vI (to : Int)), some (vI ((i : Int) + 1))]) (dk_at dkX0_takeMoved 19 rfl) (by decide) rfl rfl rfl ?_
        rw [show ((i : Int) + 1) = ((i + 1 : Nat) : Int) by omega]
        refine q_goto (tgt := 7) (dk_at dkX0_takeMoved 20 rfl) rfl ?_
        exact ih (i + 1) sz o1 h1 (by omega) (by omega) ho1 hr1 hP hQ hF
      · refine q_aload_n (pc' := 23) (dk_at dkX0_takeMoved 11 rfl) rfl rfl ?_
        refine q_aload_n (pc' := 24) (dk_at dkX0_takeMoved 12 rfl) rfl rfl ?_
        refine r_getf (pc' := 27) fl_RX0_18 (dk_at dkX0_takeMoved 13 rfl) hP.obj rfl rfl ?_
        refine q_aload_n (pc' := 28) (dk_at dkX0_takeMoved 14 rfl) rfl rfl ?_
        refine r_getf (pc' := 31) fl_RX0_9 (dk_at dkX0_takeMoved 15 rfl) hQ.obj rfl rfl ?_
        refine q_iload (pc' := 33) (dk_at dkX0_takeMoved 16 rfl) rfl rfl ?_
        refine r_iald (pc' := 34) (dk_at dkX0_takeMoved 17 rfl) hQ.order i (by omega) (by omega) (by decide) rfl ?_
        have bb4 := hO2 i
        refine r_cVV (pc' := 37) (As := [vI (sz : Int), vI (o2 i)]) (S := []) cv_RX0_38 (dk_at dkX0_takeMoved 18 rfl) hP.obj rfl (k_Plan_putAt (d := 0) (place := sz) hP (by omega) (Nat.le_refl _)) (by omega) (Nat.zero_le _) (Nat.zero_le _) rfl (Nat.le_of_ble_eq_true rfl) rfl (Nat.le_of_ble_eq_true rfl) rfl (fun hh6 hphh6 => ?_)
        obtain ⟨o3, hP, ho3, hG⟩ := hphh6
        have hQ := hQ.frm hG (by omega)
        have hF := hF.tr hG (by omega)
        refine q_iinc (pc' := 40) (L' := [some (vR p), some (vR q), some (vI (fr : Int)), some (vI (to : Int)), some (vI ((i : Int) + 1))]) (dk_at dkX0_takeMoved 19 rfl) (by decide) rfl rfl rfl ?_
        rw [show ((i : Int) + 1) = ((i + 1 : Nat) : Int) by omega]
        refine q_goto (tgt := 7) (dk_at dkX0_takeMoved 20 rfl) rfl ?_
        refine ih (i + 1) (sz + 1) o3 _ (by omega) (by omega) ?_ (fun j => by rw [ho3]; exact insz_r hr1 (hO2 _) j) hP hQ hF
        intro k hk
        rw [ho3]
        unfold insz
        by_cases q : k < sz
        · rw [if_pos q]; exact ho1 k q
        · rw [if_neg q, if_pos (by omega)]
          unfold skz
          have : k = sz := by omega
          subst this
          by_cases q2 : fr < i
          · rw [if_neg (by omega)]; congr 1; omega
          · rw [if_pos (by omega)]; congr 1; omega

set_option maxHeartbeats 4000000 in
set_option maxRecDepth 100000 in
theorem k_Plan_takeMoved {d n : Nat} {h : PH} {p q m fr to : Nat} {size bc bc2 : Int} {o e o2 e2 : Nat → Int} (hd : 1 ≤ d) (hO : ∀ j, 0 ≤ o j ∧ o j ≤ 7) (hO2 : ∀ j, 0 ≤ o2 j ∧ o2 j ≤ 7) (hm8 : m ≤ 8) (hfr : fr < m) (hto : to < m) (hpq : p + 3 ≤ q ∨ q + 3 ≤ p) (hP : isPlan n h p size bc o e) (hQ : isPlan n h q (m : Int) bc2 o2 e2) : CtrV mX0_takeMoved d [vR p, vR q, vI (fr : Int), vI (to : Int)] n h (fun h' => ∃ (o' e' : Nat → Int), isPlan n h' p (m : Int) 0 o' e' ∧ (∀ k, k < m → o' k = mvz o2 fr to k) ∧ (∀ j, 0 ≤ o' j ∧ o' j ≤ 7) ∧ Fr h h' p (p + 3)) := by
  refine q_beginV (L := [some (vR p), some (vR q), some (vI (fr : Int)), some (vI (to : Int)), none]) rfl ?_
  refine q_aload_n (pc' := 1) (dk_at dkX0_takeMoved 0 rfl) rfl rfl ?_
  refine r_cVV (pc' := 4) (As := []) (S := []) cv_RX0_35 (dk_at dkX0_takeMoved 1 rfl) hP.obj rfl (k_Plan_makeEmpty (d := 0) hP) (by omega) (Nat.zero_le _) (Nat.zero_le _) rfl (Nat.le_of_ble_eq_true rfl) rfl (Nat.le_of_ble_eq_true rfl) rfl (fun hh2 hphh2 => ?_)
  obtain ⟨hP, hG⟩ := hphh2
  have hQ := hQ.frm hG (by omega)
  refine q_iconst (pc' := 5) (dk_at dkX0_takeMoved 2 rfl) rfl ?_
  refine q_istore (pc' := 7) (L' := [some (vR p), some (vR q), some (vI (fr : Int)), some (vI (to : Int)), some (vI 0)]) (dk_at dkX0_takeMoved 3 rfl) (by decide) rfl rfl ?_
  exact l_moved hd hO2 hm8 hfr hto hpq m 0 0 o _ (by omega) (by omega) (fun k hk => by omega) hO hP hQ hG
