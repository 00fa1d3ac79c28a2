/-! drops of jobs and setups; the hash of a shop; Arrays.fill -/
def dO (o : Nat → Int) (job : Int) : Nat → Nat → Int
  | 0 => o
  | i + 1 => if o i = job then dO o job i else upz (dO o job i) (fN o job i) (if job < o i then o i - 1 else o i)
theorem dO_hi (o : Nat → Int) (job : Int) : ∀ i j, i ≤ j → dO o job i j = o j
  | 0, j, _ => rfl
  | i + 1, j, h => by
    have h1 := dO_hi o job i j (by omega)
    have h2 := fN_le o job i
    unfold dO
    split
    · exact h1
    · rw [upz_ne (by omega)]
      exact h1
theorem dO_r {o : Nat → Int} {job : Int} (hj : 0 ≤ job) (ho : ∀ j, 0 ≤ o j ∧ o j ≤ 7) : ∀ i j, 0 ≤ dO o job i j ∧ dO o job i j ≤ 7
  | 0, j => ho j
  | i + 1, j => by
    have h1 := dO_r hj ho i j
    have h2 := ho i
    unfold dO
    split
    · exact h1
    · unfold upz
      split
      · split <;> omega
      · exact h1
/-- where batch b begins -/
def bgn (e : Nat → Int) (b : Nat) : Nat := if 0 < b then (e (b - 1)).toNat else 0
/-- the batches left when a job is dropped: how many of the first b, and where they end -/
def bN (o e : Nat → Int) (job : Int) : Nat → Nat
  | 0 => 0
  | b + 1 => if fN o job (bgn e b) < fN o job (e b).toNat then bN o e job b + 1 else bN o e job b
def bE (o e : Nat → Int) (job : Int) : Nat → Nat → Int
  | 0 => e
  | b + 1 => if fN o job (bgn e b) < fN o job (e b).toNat then upz (bE o e job b) (bN o e job b) ((fN o job (e b).toNat : Nat) : Int) else bE o e job b
theorem bN_le (o e : Nat → Int) (job : Int) : ∀ b, bN o e job b ≤ b
  | 0 => Nat.le_refl _
  | b + 1 => by
    have := bN_le o e job b
    unfold bN
    split <;> omega
theorem bE_hi (o e : Nat → Int) (job : Int) : ∀ b j, b ≤ j → bE o e job b j = e j
  | 0, j, _ => rfl
  | b + 1, j, h => by
    have h1 := bE_hi o e job b j (by omega)
    have h2 := bN_le o e job b
    unfold bE
    split
    · rw [upz_ne (by omega)]
      exact h1
    · exact h1
set_option maxHeartbeats 4000000 in
set_option maxRecDepth 100000 in
theorem l_dropJ1 {d n : Nat} {F : FT} {h : PH} {p en : Nat} {size bc b2 b5 b6 : Int} {o e1 : Nat → Int} {job : Int} (hO : ∀ j, 0 ≤ o j ∧ o j ≤ 7) (hs8 : en ≤ 8) (hj : 0 ≤ job ∧ job ≤ 7) (hex : ∀ (o1 : Nat → Int) (h1 : PH) (x8 : Option PV), o1 = dO o job en → isPlan n h1 p size bc o1 e1 → Fr h h1 p (p + 3) → QN mX0_dropJob d F 83 [some (vR p), some (vI job), some (vI ((fN o job en : Nat) : Int)), some (vI b2), some (vI (en : Int)), some (vI b5), some (vI b6), some (vI (en : Int)), x8] [] n h1) : ∀ (c : Nat) (i l : Nat) (o1 : Nat → Int) (h1 : PH) (x8 : Option PV), (i + c = en) → (l = fN o job i) → (o1 = dO o job i) → (isPlan n h1 p size bc o1 e1) → (Fr h h1 p (p + 3)) → QN mX0_dropJob d F 31 [some (vR p), some (vI job), some (vI (l : Int)), some (vI b2), some (vI (i : Int)), some (vI b5), some (vI b6), some (vI (en : Int)), x8] [] n h1 := by
  intro c
  induction c with
  | zero =>
    intro i l o1 h1 x8 hc hl ho hP hF
    refine q_iload (pc' := 33) (dk_at dkX0_dropJob 19 rfl) rfl rfl ?_
    refine q_iload (pc' := 35) (dk_at dkX0_dropJob 20 rfl) rfl rfl ?_
    refine q_icmp_ge (tgt := 83) (pc' := 38) (dk_at dkX0_dropJob 21 rfl) rfl rfl (by omega) (by omega) (fun c35 => ?_) (fun c35 => ?_)
    · have es : en = i := by omega
      rw [es]
      rw [es] at hex
      rw [hl]
      exact hex o1 h1 _ ho hP hF
    · exfalso
      omega
  | succ c ih =>
    intro i l o1 h1 x8 hc hl ho hP hF
    refine q_iload (pc' := 33) (dk_at dkX0_dropJob 19 rfl) rfl rfl ?_
    refine q_iload (pc' := 35) (dk_at dkX0_dropJob 20 rfl) rfl rfl ?_
    refine q_icmp_ge (tgt := 83) (pc' := 38) (dk_at dkX0_dropJob 21 rfl) rfl rfl (by omega) (by omega) (fun c35 => ?_) (fun c35 => ?_)
    · have es : en = i := by omega
      rw [es]
      rw [es] at hex
      rw [hl]
      exact hex o1 h1 _ ho hP hF
    · have ei := ho ▸ dO_hi o job i i (Nat.le_refl _)
      have hr1 : ∀ j, 0 ≤ o1 j ∧ o1 j ≤ 7 := fun j => by rw [ho]; exact dO_r (by omega) hO i j
      have hlb : l ≤ i := by rw [hl]; exact fN_le _ _ _
      refine q_aload_n (pc' := 39) (dk_at dkX0_dropJob 22 rfl) rfl rfl ?_
      refine r_getf (pc' := 42) fl_RX0_9 (dk_at dkX0_dropJob 23 rfl) hP.obj rfl rfl ?_
      refine q_iload (pc' := 44) (dk_at dkX0_dropJob 24 rfl) rfl rfl ?_
      refine r_iald (pc' := 45) (dk_at dkX0_dropJob 25 rfl) hP.order i (by omega) (by omega) (by decide) rfl ?_
      have bb1 := hr1 i
      refine q_istore (pc' := 47) (L' := [some (vR p), some (vI job), some (vI (l : Int)), some (vI b2), some (vI (i : Int)), some (vI b5), some (vI b6), some (vI (en : Int)), some (vI (o1 i))]) (dk_at dkX0_dropJob 26 rfl) (by decide) rfl rfl ?_
      refine q_iload (pc' := 49) (dk_at dkX0_dropJob 27 rfl) rfl rfl ?_
      refine q_iload_n (pc' := 50) (dk_at dkX0_dropJob 28 rfl) rfl rfl ?_
      refine q_icmp_eq (tgt := 77) (pc' := 53) (dk_at dkX0_dropJob 29 rfl) rfl rfl (by omega) (by omega) (fun c50 => ?_) (fun c50 => ?_)
      · refine q_iinc (pc' := 80) (L' := [some (vR p), some (vI job), some (vI (l : Int)), some (vI b2), some (vI ((i : Int) + 1)), some (vI b5), some (vI b6), some (vI (en : Int)), some (vI (o1 i))]) (dk_at dkX0_dropJob 43 rfl) (by decide) rfl rfl rfl ?_
        rw [show ((i : Int) + 1) = ((i + 1 : Nat) : Int) by omega]
        refine q_goto (tgt := 31) (dk_at dkX0_dropJob 44 rfl) rfl ?_
        refine ih (i + 1) _ _ _ _ (by omega) ?_ ?_ hP hF
        · unfold fN; first | rw [if_pos (by omega), hl] | rw [if_neg (by omega), hl]
        · unfold dO; first | rw [if_pos (by omega), ho] | (rw [if_neg (by omega), ← hl, ← ho, ← ei]; congr 1; first | rw [if_pos (by omega)] | rw [if_neg (by omega)])
      · refine q_aload_n (pc' := 54) (dk_at dkX0_dropJob 30 rfl) rfl rfl ?_
        refine r_getf (pc' := 57) fl_RX0_9 (dk_at dkX0_dropJob 31 rfl) hP.obj rfl rfl ?_
        refine q_iload_n (pc' := 58) (dk_at dkX0_dropJob 32 rfl) rfl rfl ?_
        refine q_iload (pc' := 60) (dk_at dkX0_dropJob 33 rfl) rfl rfl ?_
        refine q_iload_n (pc' := 61) (dk_at dkX0_dropJob 34 rfl) rfl rfl ?_
        refine q_icmp_le (tgt := 71) (pc' := 64) (dk_at dkX0_dropJob 35 rfl) rfl rfl (by omega) (by omega) (fun c61 => ?_) (fun c61 => ?_)
        · refine q_iload (pc' := 73) (dk_at dkX0_dropJob 40 rfl) rfl rfl ?_
          refine r_iast (pc' := 74) (dk_at dkX0_dropJob 41 rfl) hP.order l (by omega) (by omega) (by decide) rfl (fun hh2 ehh2 => ?_)
          have hP := hP.w_order ehh2
          have hF := hF.put ehh2 (by omega)
          refine q_iinc (pc' := 77) (L' := [some (vR p), some (vI job), some (vI ((l : Int) + 1)), some (vI b2), some (vI (i : Int)), some (vI b5), some (vI b6), some (vI (en : Int)), some (vI (o1 i))]) (dk_at dkX0_dropJob 42 rfl) (by decide) rfl rfl rfl ?_
          rw [show ((l : Int) + 1) = ((l + 1 : Nat) : Int) by omega]
          refine q_iinc (pc' := 80) (L' := [some (vR p), some (vI job), some (vI ((l + 1 : Nat) : Int)), some (vI b2), some (vI ((i : Int) + 1)), some (vI b5), some (vI b6), some (vI (en : Int)), some (vI (o1 i))]) (dk_at dkX0_dropJob 43 rfl) (by decide) rfl rfl rfl ?_
          rw [show ((i : Int) + 1) = ((i + 1 : Nat) : Int) by omega]
          refine q_goto (tgt := 31) (dk_at dkX0_dropJob 44 rfl) rfl ?_
          refine ih (i + 1) _ _ _ _ (by omega) ?_ ?_ hP hF
          · unfold fN; first | rw [if_pos (by omega), hl] | rw [if_neg (by omega), hl]
          · unfold dO; first | rw [if_pos (by omega), ho] | (rw [if_neg (by omega), ← hl, ← ho, ← ei]; congr 1; first | rw [if_pos (by omega)] | rw [if_neg (by omega)])
        · refine q_iload (pc' := 66) (dk_at dkX0_dropJob 36 rfl) rfl rfl ?_
          refine q_iconst (pc' := 67) (dk_at dkX0_dropJob 37 rfl) rfl ?_
          refine q_isub (pc' := 68) (dk_at dkX0_dropJob 38 rfl) rfl ?_
          refine q_goto (tgt := 73) (dk_at dkX0_dropJob 39 rfl) rfl ?_
          refine r_iast (pc' := 74) (dk_at dkX0_dropJob 41 rfl) hP.order l (by omega) (by omega) (by decide) rfl (fun hh3 ehh3 => ?_)
          have hP := hP.w_order ehh3
          have hF := hF.put ehh3 (by omega)
          refine q_iinc (pc' := 77) (L' := [some (vR p), some (vI job), some (vI ((l : Int) + 1)), some (vI b2), some (vI (i : Int)), some (vI b5), some (vI b6), some (vI (en : Int)), some (vI (o1 i))]) (dk_at dkX0_dropJob 42 rfl) (by decide) rfl rfl rfl ?_
          rw [show ((l : Int) + 1) = ((l + 1 : Nat) : Int) by omega]
          refine q_iinc (pc' := 80) (L' := [some (vR p), some (vI job), some (vI ((l + 1 : Nat) : Int)), some (vI b2), some (vI ((i : Int) + 1)), some (vI b5), some (vI b6), some (vI (en : Int)), some (vI (o1 i))]) (dk_at dkX0_dropJob 43 rfl) (by decide) rfl rfl rfl ?_
          rw [show ((i : Int) + 1) = ((i + 1 : Nat) : Int) by omega]
          refine q_goto (tgt := 31) (dk_at dkX0_dropJob 44 rfl) rfl ?_
          refine ih (i + 1) _ _ _ _ (by omega) ?_ ?_ hP hF
          · unfold fN; first | rw [if_pos (by omega), hl] | rw [if_neg (by omega), hl]
          · unfold dO; first | rw [if_pos (by omega), ho] | (rw [if_neg (by omega), ← hl, ← ho, ← ei]; congr 1; first | rw [if_pos (by omega)] | rw [if_neg (by omega)])

set_option maxHeartbeats 4000000 in
set_option maxRecDepth 100000 in
theorem l_dropJ2 {d n : Nat} {h : PH} {p m : Nat} {size : Int} {o e : Nat → Int} {job : Int} (hO : ∀ j, 0 ≤ o j ∧ o j ≤ 7) (hm8 : m ≤ 8) (hj : 0 ≤ job ∧ job ≤ 7) (hval : ∀ b, b < m → ((bgn e b : Nat) : Int) ≤ e b ∧ e b ≤ 8) : ∀ (c : Nat) (b l bl pl : Nat) (o1 e1 : Nat → Int) (h1 : PH) (x6 x7 x8 : Option PV), (b + c = m) → (pl = bgn e b) → (l = fN o job pl) → (bl = bN o e job b) → (o1 = dO o job pl) → (e1 = bE o e job b) → (isPlan n h1 p size (m : Int) o1 e1) → (Fr h h1 p (p + 3)) → QN mX0_dropJob d (FV n (fun h' => isPlan n h' p ((fN o job (bgn e m) : Nat) : Int) ((bN o e job m : Nat) : Int) (dO o job (bgn e m)) (bE o e job m) ∧ Fr h h' p (p + 3))) 10 [some (vR p), some (vI job), some (vI (l : Int)), some (vI (bl : Int)), some (vI (pl : Int)), some (vI (b : Int)), x6, x7, x8] [] n h1 := by
  intro c
  induction c with
  | zero =>
    intro b l bl pl o1 e1 h1 x6 x7 x8 hc hpl hl hbn ho he hP hF
    refine q_iload (pc' := 12) (dk_at dkX0_dropJob 8 rfl) rfl rfl ?_
    refine q_aload_n (pc' := 13) (dk_at dkX0_dropJob 9 rfl) rfl rfl ?_
    refine r_getf (pc' := 16) fl_RX0_22 (dk_at dkX0_dropJob 10 rfl) hP.obj rfl rfl ?_
    refine q_icmp_ge (tgt := 105) (pc' := 19) (dk_at dkX0_dropJob 11 rfl) rfl rfl (by omega) (by omega) (fun c16 => ?_) (fun c16 => ?_)
    · refine q_aload_n (pc' := 106) (dk_at dkX0_dropJob 56 rfl) rfl rfl ?_
      refine q_iload_n (pc' := 107) (dk_at dkX0_dropJob 57 rfl) rfl rfl ?_
      refine r_putf (pc' := 110) fp_RX0_18 (dk_at dkX0_dropJob 58 rfl) hP.obj (Nat.le_of_ble_eq_true rfl) (PT_int _) rfl (fun hh1 ehh1 => ?_)
      have hP := hP.w_obj ehh1
      have hF := hF.put ehh1 (by omega)
      refine q_aload_n (pc' := 111) (dk_at dkX0_dropJob 59 rfl) rfl rfl ?_
      refine q_iload_n (pc' := 112) (dk_at dkX0_dropJob 60 rfl) rfl rfl ?_
      refine r_putf (pc' := 115) fp_RX0_22 (dk_at dkX0_dropJob 61 rfl) hP.obj (Nat.le_of_ble_eq_true rfl) (PT_int _) rfl (fun hh2 ehh2 => ?_)
      have hP := hP.w_obj ehh2
      have hF := hF.put ehh2 (by omega)
      refine r_vret rfl (dk_at dkX0_dropJob 62 rfl) ?_
      have eb : m = b := by omega
      refine ⟨?_, hF⟩
      rw [eb]
      rw [← hpl, ← hl, ← hbn, ← he, ← ho]
      exact hP
    · exfalso
      omega
  | succ c ih =>
    intro b l bl pl o1 e1 h1 x6 x7 x8 hc hpl hl hbn ho he hP hF
    refine q_iload (pc' := 12) (dk_at dkX0_dropJob 8 rfl) rfl rfl ?_
    refine q_aload_n (pc' := 13) (dk_at dkX0_dropJob 9 rfl) rfl rfl ?_
    refine r_getf (pc' := 16) fl_RX0_22 (dk_at dkX0_dropJob 10 rfl) hP.obj rfl rfl ?_
    refine q_icmp_ge (tgt := 105) (pc' := 19) (dk_at dkX0_dropJob 11 rfl) rfl rfl (by omega) (by omega) (fun c16 => ?_) (fun c16 => ?_)
    · refine q_aload_n (pc' := 106) (dk_at dkX0_dropJob 56 rfl) rfl rfl ?_
      refine q_iload_n (pc' := 107) (dk_at dkX0_dropJob 57 rfl) rfl rfl ?_
      refine r_putf (pc' := 110) fp_RX0_18 (dk_at dkX0_dropJob 58 rfl) hP.obj (Nat.le_of_ble_eq_true rfl) (PT_int _) rfl (fun hh1 ehh1 => ?_)
      have hP := hP.w_obj ehh1
      have hF := hF.put ehh1 (by omega)
      refine q_aload_n (pc' := 111) (dk_at dkX0_dropJob 59 rfl) rfl rfl ?_
      refine q_iload_n (pc' := 112) (dk_at dkX0_dropJob 60 rfl) rfl rfl ?_
      refine r_putf (pc' := 115) fp_RX0_22 (dk_at dkX0_dropJob 61 rfl) hP.obj (Nat.le_of_ble_eq_true rfl) (PT_int _) rfl (fun hh2 ehh2 => ?_)
      have hP := hP.w_obj ehh2
      have hF := hF.put ehh2 (by omega)
      refine r_vret rfl (dk_at dkX0_dropJob 62 rfl) ?_
      have eb : m = b := by omega
      refine ⟨?_, hF⟩
      rw [eb]
      rw [← hpl, ← hl, ← hbn, ← he, ← ho]
      exact hP
    · have eb := he ▸ bE_hi o e job b b (Nat.le_refl _)
      have hv := hval b (by omega)
      have hbb : bl ≤ b := by rw [hbn]; exact bN_le _ _ _ _
      have hlp : l ≤ pl := by rw [hl]; exact fN_le _ _ _
      refine q_iload_n (pc' := 20) (dk_at dkX0_dropJob 12 rfl) rfl rfl ?_
      refine q_istore (pc' := 22) (L' := [some (vR p), some (vI job), some (vI (l : Int)), some (vI (bl : Int)), some (vI (pl : Int)), some (vI (b : Int)), some (vI (l : Int)), x7, x8]) (dk_at dkX0_dropJob 13 rfl) (by decide) rfl rfl ?_
      refine q_aload_n (pc' := 23) (dk_at dkX0_dropJob 14 rfl) rfl rfl ?_
      refine r_getf (pc' := 26) fl_RX0_15 (dk_at dkX0_dropJob 15 rfl) hP.obj rfl rfl ?_
      refine q_iload (pc' := 28) (dk_at dkX0_dropJob 16 rfl) rfl rfl ?_
      refine r_iald (pc' := 29) (dk_at dkX0_dropJob 17 rfl) hP.ends b (by omega) (by omega) (by decide) rfl ?_
      refine q_istore (pc' := 31) (L' := [some (vR p), some (vI job), some (vI (l : Int)), some (vI (bl : Int)), some (vI (pl : Int)), some (vI (b : Int)), some (vI (l : Int)), some (vI (e1 b)), x8]) (dk_at dkX0_dropJob 18 rfl) (by decide) rfl rfl ?_
      have hbg : ((pl : Int)) = (pl : Int) := rfl
      obtain ⟨en, hen⟩ : ∃ en : Nat, e1 b = (en : Int) := ⟨(e1 b).toNat, by omega⟩
      rw [hen]
      refine l_dropJ1 (h := h) (o := o) hO (by omega) hj ?_ (en - pl) pl l o1 _ _ (by omega) hl ho hP hF
      intro o3 h3 x8 ho3 hP hF
      have hle := fN_le o job en
      have een : en = (e b).toNat := by omega
      have epl : pl = bgn e b := hpl
      refine q_iload_n (pc' := 84) (dk_at dkX0_dropJob 45 rfl) rfl rfl ?_
      refine q_iload (pc' := 86) (dk_at dkX0_dropJob 46 rfl) rfl rfl ?_
      refine q_icmp_le (tgt := 99) (pc' := 89) (dk_at dkX0_dropJob 47 rfl) rfl rfl (by omega) (by omega) (fun c86 => ?_) (fun c86 => ?_)
      · refine q_iinc (pc' := 102) (L' := [some (vR p), some (vI job), some (vI ((fN o job en : Nat) : Int)), some (vI (bl : Int)), some (vI (en : Int)), some (vI ((b : Int) + 1)), some (vI (l : Int)), some (vI (en : Int)), x8]) (dk_at dkX0_dropJob 54 rfl) (by decide) rfl rfl rfl ?_
        rw [show ((b : Int) + 1) = ((b + 1 : Nat) : Int) by omega]
        refine q_goto (tgt := 10) (dk_at dkX0_dropJob 55 rfl) rfl ?_
        refine ih (b + 1) (fN o job en) _ en o3 _ _ _ _ _ (by omega) ?_ (by rw [een]) ?_ ho3 ?_ hP hF
        · show _ = (if 0 < b + 1 then _ else _); rw [if_pos (by omega), een]; rfl
        · unfold bN; rw [← epl, ← een, ← hl]; first | rw [if_pos (by omega), hbn] | rw [if_neg (by omega), hbn]
        · unfold bE; rw [← epl, ← een, ← hl]; first | rw [if_pos (by omega), ← hbn, ← he] | rw [if_neg (by omega), ← he]
      · refine q_aload_n (pc' := 90) (dk_at dkX0_dropJob 48 rfl) rfl rfl ?_
        refine r_getf (pc' := 93) fl_RX0_15 (dk_at dkX0_dropJob 49 rfl) hP.obj rfl rfl ?_
        refine q_iload_n (pc' := 94) (dk_at dkX0_dropJob 50 rfl) rfl rfl ?_
        refine q_iload_n (pc' := 95) (dk_at dkX0_dropJob 51 rfl) rfl rfl ?_
        refine r_iast (pc' := 96) (dk_at dkX0_dropJob 52 rfl) hP.ends bl (by omega) (by omega) (by decide) rfl (fun hh3 ehh3 => ?_)
        have hP := hP.w_ends ehh3
        have hF := hF.put ehh3 (by omega)
        refine q_iinc (pc' := 99) (L' := [some (vR p), some (vI job), some (vI ((fN o job en : Nat) : Int)), some (vI ((bl : Int) + 1)), some (vI (en : Int)), some (vI (b : Int)), some (vI (l : Int)), some (vI (en : Int)), x8]) (dk_at dkX0_dropJob 53 rfl) (by decide) rfl rfl rfl ?_
        rw [show ((bl : Int) + 1) = ((bl + 1 : Nat) : Int) by omega]
        refine q_iinc (pc' := 102) (L' := [some (vR p), some (vI job), some (vI ((fN o job en : Nat) : Int)), some (vI ((bl + 1 : Nat) : Int)), some (vI (en : Int)), some (vI ((b : Int) + 1)), some (vI (l : Int)), some (vI (en : Int)), x8]) (dk_at dkX0_dropJob 54 rfl) (by decide) rfl rfl rfl ?_
        rw [show ((b : Int) + 1) = ((b + 1 : Nat) : Int) by omega]
        refine q_goto (tgt := 10) (dk_at dkX0_dropJob 55 rfl) rfl ?_
        refine ih (b + 1) (fN o job en) _ en o3 _ _ _ _ _ (by omega) ?_ (by rw [een]) ?_ ho3 ?_ hP hF
        · show _ = (if 0 < b + 1 then _ else _); rw [if_pos (by omega), een]; rfl
        · unfold bN; rw [← epl, ← een, ← hl]; first | rw [if_pos (by omega), hbn] | rw [if_neg (by omega), hbn]
        · unfold bE; rw [← epl, ← een, ← hl]; first | rw [if_pos (by omega), ← hbn, ← he] | rw [if_neg (by omega), ← he]

set_option maxHeartbeats 4000000 in
set_option maxRecDepth 100000 in
theorem k_Plan_dropJob {d n : Nat} {h : PH} {p m : Nat} {size : Int} {o e : Nat → Int} {job : Int} (hO : ∀ j, 0 ≤ o j ∧ o j ≤ 7) (hm8 : m ≤ 8) (hj : 0 ≤ job ∧ job ≤ 7) (hval : ∀ b, b < m → ((bgn e b : Nat) : Int) ≤ e b ∧ e b ≤ 8) (hP : isPlan n h p size (m : Int) o e) : CtrV mX0_dropJob d [vR p, vI job] n h (fun h' => isPlan n h' p ((fN o job (bgn e m) : Nat) : Int) ((bN o e job m : Nat) : Int) (dO o job (bgn e m)) (bE o e job m) ∧ Fr h h' p (p + 3)) := by
  refine q_beginV (L := [some (vR p), some (vI job), none, none, none, none, none, none, none]) rfl ?_
  refine q_iconst (pc' := 1) (dk_at dkX0_dropJob 0 rfl) rfl ?_
  refine q_istore_n (pc' := 2) (L' := [some (vR p), some (vI job), some (vI 0), none, none, none, none, none, none]) (dk_at dkX0_dropJob 1 rfl) (by decide) rfl rfl ?_
  refine q_iconst (pc' := 3) (dk_at dkX0_dropJob 2 rfl) rfl ?_
  refine q_istore_n (pc' := 4) (L' := [some (vR p), some (vI job), some (vI 0), some (vI 0), none, none, none, none, none]) (dk_at dkX0_dropJob 3 rfl) (by decide) rfl rfl ?_
  refine q_iconst (pc' := 5) (dk_at dkX0_dropJob 4 rfl) rfl ?_
  refine q_istore (pc' := 7) (L' := [some (vR p), some (vI job), some (vI 0), some (vI 0), some (vI 0), none, none, none, none]) (dk_at dkX0_dropJob 5 rfl) (by decide) rfl rfl ?_
  refine q_iconst (pc' := 8) (dk_at dkX0_dropJob 6 rfl) rfl ?_
  refine q_istore (pc' := 10) (L' := [some (vR p), some (vI job), some (vI 0), some (vI 0), some (vI 0), some (vI 0), none, none, none]) (dk_at dkX0_dropJob 7 rfl) (by decide) rfl rfl ?_
  exact l_dropJ2 hO hm8 hj hval m 0 0 0 0 o e h none none none (by omega) rfl rfl rfl rfl rfl hP Fr.rf
