/-! Search: remember; gaps; sets -/
def RemI (ky k : Nat) (sT sX sT1 sX1 : Nat → Int) (l q : Nat) : Prop := l ≤ q ∧ (∀ i, (i < 3 * ky ∨ 3 * ky + q ≤ i) → sT1 i = sT i ∧ sX1 i = sX i) ∧ (∀ x, x < l → ∃ y, y < k ∧ sT1 (3 * ky + x) = sT (3 * ky + y) ∧ sX1 (3 * ky + x) = sX (3 * ky + y)) ∧ (∀ i, 0 ≤ sT1 i ∧ sT1 i ≤ 100000) ∧ ∀ i, -4000000000000 ≤ sX1 i ∧ sX1 i ≤ 4000000000000
theorem RemI_keep {ky k : Nat} {sT sX sT1 sX1 : Nat → Int} {l q : Nat} (h : RemI ky k sT sX sT1 sX1 l q) (hq : q < k) : RemI ky k sT sX (upz sT1 (3 * ky + l) (sT1 (3 * ky + q))) (upz sX1 (3 * ky + l) (sX1 (3 * ky + q))) (l + 1) (q + 1) := by
  obtain ⟨h1, h2, h3, h4, h5⟩ := h
  refine ⟨by omega, fun i hi => ?_, fun x hx => ?_, fun i => ?_, fun i => ?_⟩
  · rw [upz_ne (by omega), upz_ne (by omega)]
    exact h2 i (by omega)
  · by_cases e : x = l
    · subst e
      rw [upz_eq, upz_eq]
      exact ⟨q, hq, (h2 (3 * ky + q) (by omega)).1, (h2 (3 * ky + q) (by omega)).2⟩
    · rw [upz_ne (by omega), upz_ne (by omega)]
      exact h3 x (by omega)
  · unfold upz; split
    · exact h4 _
    · exact h4 i
  · unfold upz; split
    · exact h5 _
    · exact h5 i
theorem RemI_drop {ky k : Nat} {sT sX sT1 sX1 : Nat → Int} {l q : Nat} (h : RemI ky k sT sX sT1 sX1 l q) : RemI ky k sT sX sT1 sX1 l (q + 1) :=
  ⟨by have := h.1; omega, fun i hi => h.2.1 i (by omega), h.2.2⟩
def RemP (ky k : Nat) (free sum : Int) (sC sT sX sC' sT' sX' : Nat → Int) : Prop :=
  (∀ i, i ≠ ky → sC' i = sC i) ∧ (∀ i, (i < 3 * ky ∨ 3 * ky + 3 ≤ i) → sT' i = sT i ∧ sX' i = sX i) ∧ (∃ k' : Nat, sC' ky = (k' : Int) ∧ 1 ≤ k' ∧ k' ≤ 3 ∧ ∀ x, x < k' → (sT' (3 * ky + x) = free ∧ sX' (3 * ky + x) = sum) ∨ ∃ y, y < k ∧ sT' (3 * ky + x) = sT (3 * ky + y) ∧ sX' (3 * ky + x) = sX (3 * ky + y)) ∧ (∀ i, 0 ≤ sT' i ∧ sT' i ≤ 100000) ∧ ∀ i, -4000000000000 ≤ sX' i ∧ sX' i ≤ 4000000000000
theorem RemP_of {ky k : Nat} {free sum : Int} {sC sT sX sT1 sX1 : Nat → Int} {l l' : Nat} (hk : k ≤ 3) (h : RemI ky k sT sX sT1 sX1 l k) (hl : l' = min l 2) (hf : 0 ≤ free ∧ free ≤ 100000) (hs : -2000000000000 ≤ sum ∧ sum ≤ 2000000000000) : RemP ky k free sum sC sT sX (upz sC ky ((l' : Int) + 1)) (upz sT1 (3 * ky + l') free) (upz sX1 (3 * ky + l') sum) := by
  obtain ⟨h1, h2, h3, h4, h5⟩ := h
  refine ⟨fun i hi => upz_ne hi, fun i hi => ?_, ⟨l' + 1, ?_, by omega, by omega, fun x hx => ?_⟩, fun i => ?_, fun i => ?_⟩
  · rw [upz_ne (by omega), upz_ne (by omega)]
    exact h2 i (by omega)
  · rw [upz_eq]; rfl
  · by_cases e : x = l'
    · subst e
      rw [upz_eq, upz_eq]
      exact Or.inl ⟨rfl, rfl⟩
    · rw [upz_ne (by omega), upz_ne (by omega)]
      exact Or.inr (h3 x (by omega))
  · unfold upz; split
    · exact hf
    · exact h4 i
  · unfold upz; split
    · omega
    · exact h5 i
set_option maxHeartbeats 4000000 in
set_option maxRecDepth 100000 in
theorem l_remember {d n : Nat} {h : PH} {b : Nat} {S : Shp} {al fi bs fl sc fc : Int} {st fa re wo lg rk ch fo sC sT sX : Nat → Int} {G : Nat → Nat → Int} {dn ky k : Nat} {last free sum : Int} (hd : 1 ≤ d) (hky : ky < 1024) (hk3 : k ≤ 3) (hfr : 0 ≤ free ∧ free ≤ 100000) (hsum : -2000000000000 ≤ sum ∧ sum ≤ 2000000000000) : ∀ (c : Nat) (q l : Nat) (sT1 sX1 : Nat → Int) (h1 : PH), (q + c = k) → (RemI ky k sT sX sT1 sX1 l q) → (isSearch n h1 b al fi bs fl sc st fa re wo G lg rk ch fo fc sC sT1 sX1) → (isShp n h1 (b + 1) S) → (Fr h h1 b (b + 31)) → QN mX1_remember d (FV n (fun h' => ∃ sC' sT' sX', isSearch n h' b al fi bs fl sc st fa re wo G lg rk ch fo fc sC' sT' sX' ∧ isShp n h' (b + 1) S ∧ RemP ky k free sum sC sT sX sC' sT' sX' ∧ Fr h h' b (b + 31))) 33 [some (vR b), some (vI (dn : Int)), some (vI last), some (vI free), some (vJ sum), none, some (vI (ky : Int)), some (vI ((3 * ky : Nat) : Int)), some (vI ((3 * ky + k : Nat) : Int)), some (vI ((3 * ky + l : Nat) : Int)), some (vI ((3 * ky + q : Nat) : Int))] [] n h1 := by
  intro c
  induction c with
  | zero =>
    intro q l sT1 sX1 h1 hc hI hX hS hF
    refine q_iload (pc' := 35) (dk_at dkX1_remember 21 rfl) rfl rfl ?_
    refine q_iload (pc' := 37) (dk_at dkX1_remember 22 rfl) rfl rfl ?_
    refine q_icmp_ge (tgt := 101) (pc' := 40) (dk_at dkX1_remember 23 rfl) rfl rfl (by omega) (by omega) (fun c37 => ?_) (fun c37 => ?_)
    · have hlq := hI.1
      refine q_iload (pc' := 103) (dk_at dkX1_remember 56 rfl) rfl rfl ?_
      refine q_iload (pc' := 105) (dk_at dkX1_remember 57 rfl) rfl rfl ?_
      refine q_iconst (pc' := 106) (dk_at dkX1_remember 58 rfl) rfl ?_
      refine q_iadd (pc' := 107) (dk_at dkX1_remember 59 rfl) rfl ?_
      refine q_iconst (pc' := 108) (dk_at dkX1_remember 60 rfl) rfl ?_
      refine q_isub (pc' := 109) (dk_at dkX1_remember 61 rfl) rfl ?_
      refine q_min (pc' := 112) jk_RX1_137 (dk_at dkX1_remember 62 rfl) (by omega) (by omega) (by omega) (Nat.zero_le _) (Nat.zero_le _) (Nat.le_of_ble_eq_true rfl) rfl ?_
      obtain ⟨l2, hl2⟩ : ∃ l2 : Nat, l2 = min l 2 := ⟨_, rfl⟩
      rw [show (min ((3 * ky + l : Nat) : Int) ((((3 * ky : Nat) : Int) + 3) - 1)) = ((3 * ky + l2 : Nat) : Int) by omega]
      refine q_istore (pc' := 114) (L' := [some (vR b), some (vI (dn : Int)), some (vI last), some (vI free), some (vJ sum), none, some (vI (ky : Int)), some (vI ((3 * ky : Nat) : Int)), some (vI ((3 * ky + k : Nat) : Int)), some (vI ((3 * ky + l2 : Nat) : Int)), some (vI ((3 * ky + q : Nat) : Int))]) (dk_at dkX1_remember 63 rfl) (by decide) rfl rfl ?_
      refine q_aload_n (pc' := 115) (dk_at dkX1_remember 64 rfl) rfl rfl ?_
      refine r_getf (pc' := 118) fl_RX1_51 (dk_at dkX1_remember 65 rfl) hX.obj rfl rfl ?_
      refine q_iload (pc' := 120) (dk_at dkX1_remember 66 rfl) rfl rfl ?_
      refine q_iload_n (pc' := 121) (dk_at dkX1_remember 67 rfl) rfl rfl ?_
      refine r_iast (pc' := 122) (dk_at dkX1_remember 68 rfl) hX.seenTime (3 * ky + l2) (by omega) (by omega) (by decide) rfl (fun hh1 ehh1 => ?_)
      have hX := hX.w_seenTime ehh1
      have hS := hS.off ehh1 (by omega)
      have hF := hF.put ehh1 (by omega)
      refine q_aload_n (pc' := 123) (dk_at dkX1_remember 69 rfl) rfl rfl ?_
      refine r_getf (pc' := 126) fl_RX1_54 (dk_at dkX1_remember 70 rfl) hX.obj rfl rfl ?_
      refine q_iload (pc' := 128) (dk_at dkX1_remember 71 rfl) rfl rfl ?_
      refine q_lload (pc' := 130) (dk_at dkX1_remember 72 rfl) rfl rfl ?_
      refine r_last (pc' := 131) (dk_at dkX1_remember 73 rfl) hX.seenCost (3 * ky + l2) (by omega) (by omega) (by decide) rfl (fun hh2 ehh2 => ?_)
      have hX := hX.w_seenCost ehh2
      have hS := hS.off ehh2 (by omega)
      have hF := hF.put ehh2 (by omega)
      refine q_aload_n (pc' := 132) (dk_at dkX1_remember 74 rfl) rfl rfl ?_
      refine r_getf (pc' := 135) fl_RX1_48 (dk_at dkX1_remember 75 rfl) hX.obj rfl rfl ?_
      refine q_iload (pc' := 137) (dk_at dkX1_remember 76 rfl) rfl rfl ?_
      refine q_iload (pc' := 139) (dk_at dkX1_remember 77 rfl) rfl rfl ?_
      refine q_iconst (pc' := 140) (dk_at dkX1_remember 78 rfl) rfl ?_
      refine q_iadd (pc' := 141) (dk_at dkX1_remember 79 rfl) rfl ?_
      refine q_iload (pc' := 143) (dk_at dkX1_remember 80 rfl) rfl rfl ?_
      refine q_isub (pc' := 144) (dk_at dkX1_remember 81 rfl) rfl ?_
      rw [show ((((3 * ky + l2 : Nat) : Int) + 1) - ((3 * ky : Nat) : Int)) = ((l2 : Int) + 1) by omega]
      refine r_iast (pc' := 145) (dk_at dkX1_remember 82 rfl) hX.seenCount ky (by omega) (by omega) (by decide) rfl (fun hh3 ehh3 => ?_)
      have hX := hX.w_seenCount ehh3
      have hS := hS.off ehh3 (by omega)
      have hF := hF.put ehh3 (by omega)
      refine r_vret rfl (dk_at dkX1_remember 83 rfl) ?_
      first | (exfalso; omega; done) | exact ⟨_, _, _, hX, hS, RemP_of hk3 (by rw [show q = k by omega] at hI; exact hI) hl2 hfr hsum, hF⟩
    · exfalso
      omega
  | succ c ih =>
    intro q l sT1 sX1 h1 hc hI hX hS hF
    refine q_iload (pc' := 35) (dk_at dkX1_remember 21 rfl) rfl rfl ?_
    refine q_iload (pc' := 37) (dk_at dkX1_remember 22 rfl) rfl rfl ?_
    refine q_icmp_ge (tgt := 101) (pc' := 40) (dk_at dkX1_remember 23 rfl) rfl rfl (by omega) (by omega) (fun c37 => ?_) (fun c37 => ?_)
    · have hlq := hI.1
      refine q_iload (pc' := 103) (dk_at dkX1_remember 56 rfl) rfl rfl ?_
      refine q_iload (pc' := 105) (dk_at dkX1_remember 57 rfl) rfl rfl ?_
      refine q_iconst (pc' := 106) (dk_at dkX1_remember 58 rfl) rfl ?_
      refine q_iadd (pc' := 107) (dk_at dkX1_remember 59 rfl) rfl ?_
      refine q_iconst (pc' := 108) (dk_at dkX1_remember 60 rfl) rfl ?_
      refine q_isub (pc' := 109) (dk_at dkX1_remember 61 rfl) rfl ?_
      refine q_min (pc' := 112) jk_RX1_137 (dk_at dkX1_remember 62 rfl) (by omega) (by omega) (by omega) (Nat.zero_le _) (Nat.zero_le _) (Nat.le_of_ble_eq_true rfl) rfl ?_
      obtain ⟨l2, hl2⟩ : ∃ l2 : Nat, l2 = min l 2 := ⟨_, rfl⟩
      rw [show (min ((3 * ky + l : Nat) : Int) ((((3 * ky : Nat) : Int) + 3) - 1)) = ((3 * ky + l2 : Nat) : Int) by omega]
      refine q_istore (pc' := 114) (L' := [some (vR b), some (vI (dn : Int)), some (vI last), some (vI free), some (vJ sum), none, some (vI (ky : Int)), some (vI ((3 * ky : Nat) : Int)), some (vI ((3 * ky + k : Nat) : Int)), some (vI ((3 * ky + l2 : Nat) : Int)), some (vI ((3 * ky + q : Nat) : Int))]) (dk_at dkX1_remember 63 rfl) (by decide) rfl rfl ?_
      refine q_aload_n (pc' := 115) (dk_at dkX1_remember 64 rfl) rfl rfl ?_
      refine r_getf (pc' := 118) fl_RX1_51 (dk_at dkX1_remember 65 rfl) hX.obj rfl rfl ?_
      refine q_iload (pc' := 120) (dk_at dkX1_remember 66 rfl) rfl rfl ?_
      refine q_iload_n (pc' := 121) (dk_at dkX1_remember 67 rfl) rfl rfl ?_
      refine r_iast (pc' := 122) (dk_at dkX1_remember 68 rfl) hX.seenTime (3 * ky + l2) (by omega) (by omega) (by decide) rfl (fun hh1 ehh1 => ?_)
      have hX := hX.w_seenTime ehh1
      have hS := hS.off ehh1 (by omega)
      have hF := hF.put ehh1 (by omega)
      refine q_aload_n (pc' := 123) (dk_at dkX1_remember 69 rfl) rfl rfl ?_
      refine r_getf (pc' := 126) fl_RX1_54 (dk_at dkX1_remember 70 rfl) hX.obj rfl rfl ?_
      refine q_iload (pc' := 128) (dk_at dkX1_remember 71 rfl) rfl rfl ?_
      refine q_lload (pc' := 130) (dk_at dkX1_remember 72 rfl) rfl rfl ?_
      refine r_last (pc' := 131) (dk_at dkX1_remember 73 rfl) hX.seenCost (3 * ky + l2) (by omega) (by omega) (by decide) rfl (fun hh2 ehh2 => ?_)
      have hX := hX.w_seenCost ehh2
      have hS := hS.off ehh2 (by omega)
      have hF := hF.put ehh2 (by omega)
      refine q_aload_n (pc' := 132) (dk_at dkX1_remember 74 rfl) rfl rfl ?_
      refine r_getf (pc' := 135) fl_RX1_48 (dk_at dkX1_remember 75 rfl) hX.obj rfl rfl ?_
      refine q_iload (pc' := 137) (dk_at dkX1_remember 76 rfl) rfl rfl ?_
      refine q_iload (pc' := 139) (dk_at dkX1_remember 77 rfl) rfl rfl ?_
      refine q_iconst (pc' := 140) (dk_at dkX1_remember 78 rfl) rfl ?_
      refine q_iadd (pc' := 141) (dk_at dkX1_remember 79 rfl) rfl ?_
      refine q_iload (pc' := 143) (dk_at dkX1_remember 80 rfl) rfl rfl ?_
      refine q_isub (pc' := 144) (dk_at dkX1_remember 81 rfl) rfl ?_
      rw [show ((((3 * ky + l2 : Nat) : Int) + 1) - ((3 * ky : Nat) : Int)) = ((l2 : Int) + 1) by omega]
      refine r_iast (pc' := 145) (dk_at dkX1_remember 82 rfl) hX.seenCount ky (by omega) (by omega) (by decide) rfl (fun hh3 ehh3 => ?_)
      have hX := hX.w_seenCount ehh3
      have hS := hS.off ehh3 (by omega)
      have hF := hF.put ehh3 (by omega)
      refine r_vret rfl (dk_at dkX1_remember 83 rfl) ?_
      first | (exfalso; omega; done) | exact ⟨_, _, _, hX, hS, RemP_of hk3 (by rw [show q = k by omega] at hI; exact hI) hl2 hfr hsum, hF⟩
    · have hTi := hI.2.2.2.1 (3 * ky + q)
      have hXi := hI.2.2.2.2 (3 * ky + q)
      have hlq := hI.1
      refine q_aload_n (pc' := 41) (dk_at dkX1_remember 24 rfl) rfl rfl ?_
      refine r_getf (pc' := 44) fl_RX1_51 (dk_at dkX1_remember 25 rfl) hX.obj rfl rfl ?_
      refine q_iload (pc' := 46) (dk_at dkX1_remember 26 rfl) rfl rfl ?_
      refine r_iald (pc' := 47) (dk_at dkX1_remember 27 rfl) hX.seenTime (3 * ky + q) (by omega) (by omega) (by decide) rfl ?_
      refine q_iload_n (pc' := 48) (dk_at dkX1_remember 28 rfl) rfl rfl ?_
      refine q_icmp_lt (tgt := 64) (pc' := 51) (dk_at dkX1_remember 29 rfl) rfl rfl (by omega) (by omega) (fun c48 => ?_) (fun c48 => ?_)
      · refine q_aload_n (pc' := 65) (dk_at dkX1_remember 37 rfl) rfl rfl ?_
        refine r_getf (pc' := 68) fl_RX1_51 (dk_at dkX1_remember 38 rfl) hX.obj rfl rfl ?_
        refine q_iload (pc' := 70) (dk_at dkX1_remember 39 rfl) rfl rfl ?_
        refine q_aload_n (pc' := 71) (dk_at dkX1_remember 40 rfl) rfl rfl ?_
        refine r_getf (pc' := 74) fl_RX1_51 (dk_at dkX1_remember 41 rfl) hX.obj rfl rfl ?_
        refine q_iload (pc' := 76) (dk_at dkX1_remember 42 rfl) rfl rfl ?_
        refine r_iald (pc' := 77) (dk_at dkX1_remember 43 rfl) hX.seenTime (3 * ky + q) (by omega) (by omega) (by decide) rfl ?_
        refine r_iast (pc' := 78) (dk_at dkX1_remember 44 rfl) hX.seenTime (3 * ky + l) (by omega) (by omega) (by decide) rfl (fun hh4 ehh4 => ?_)
        have hX := hX.w_seenTime ehh4
        have hS := hS.off ehh4 (by omega)
        have hF := hF.put ehh4 (by omega)
        refine q_aload_n (pc' := 79) (dk_at dkX1_remember 45 rfl) rfl rfl ?_
        refine r_getf (pc' := 82) fl_RX1_54 (dk_at dkX1_remember 46 rfl) hX.obj rfl rfl ?_
        refine q_iload (pc' := 84) (dk_at dkX1_remember 47 rfl) rfl rfl ?_
        refine q_aload_n (pc' := 85) (dk_at dkX1_remember 48 rfl) rfl rfl ?_
        refine r_getf (pc' := 88) fl_RX1_54 (dk_at dkX1_remember 49 rfl) hX.obj rfl rfl ?_
        refine q_iload (pc' := 90) (dk_at dkX1_remember 50 rfl) rfl rfl ?_
        refine r_lald (pc' := 91) (dk_at dkX1_remember 51 rfl) hX.seenCost (3 * ky + q) (by omega) (by omega) (by decide) rfl ?_
        refine r_last (pc' := 92) (dk_at dkX1_remember 52 rfl) hX.seenCost (3 * ky + l) (by omega) (by omega) (by decide) rfl (fun hh5 ehh5 => ?_)
        have hX := hX.w_seenCost ehh5
        have hS := hS.off ehh5 (by omega)
        have hF := hF.put ehh5 (by omega)
        refine q_iinc (pc' := 95) (L' := [some (vR b), some (vI (dn : Int)), some (vI last), some (vI free), some (vJ sum), none, some (vI (ky : Int)), some (vI ((3 * ky : Nat) : Int)), some (vI ((3 * ky + k : Nat) : Int)), some (vI (((3 * ky + l : Nat) : Int) + 1)), some (vI ((3 * ky + q : Nat) : Int))]) (dk_at dkX1_remember 53 rfl) (by decide) rfl rfl rfl ?_
        rw [show (((3 * ky + l : Nat) : Int) + 1) = ((((3 * ky + l) + 1) : Nat) : Int) by omega]
        refine q_iinc (pc' := 98) (L' := [some (vR b), some (vI (dn : Int)), some (vI last), some (vI free), some (vJ sum), none, some (vI (ky : Int)), some (vI ((3 * ky : Nat) : Int)), some (vI ((3 * ky + k : Nat) : Int)), some (vI ((((3 * ky + l) + 1) : Nat) : Int)), some (vI (((3 * ky + q : Nat) : Int) + 1))]) (dk_at dkX1_remember 54 rfl) (by decide) rfl rfl rfl ?_
        rw [show (((3 * ky + q : Nat) : Int) + 1) = ((((3 * ky + q) + 1) : Nat) : Int) by omega]
        refine q_goto (tgt := 33) (dk_at dkX1_remember 55 rfl) rfl ?_
        rw [show 3 * ky + q + 1 = 3 * ky + (q + 1) by omega, show 3 * ky + l + 1 = 3 * ky + (l + 1) by omega]
        exact ih (q + 1) (l + 1) _ _ _ (by omega) (RemI_keep hI (by omega)) hX hS hF
      · refine q_aload_n (pc' := 52) (dk_at dkX1_remember 30 rfl) rfl rfl ?_
        refine r_getf (pc' := 55) fl_RX1_54 (dk_at dkX1_remember 31 rfl) hX.obj rfl rfl ?_
        refine q_iload (pc' := 57) (dk_at dkX1_remember 32 rfl) rfl rfl ?_
        refine r_lald (pc' := 58) (dk_at dkX1_remember 33 rfl) hX.seenCost (3 * ky + q) (by omega) (by omega) (by decide) rfl ?_
        refine q_lload (pc' := 60) (dk_at dkX1_remember 34 rfl) rfl rfl ?_
        refine q_lcmp (pc' := 61) (dk_at dkX1_remember 35 rfl) (by omega) (by omega) rfl ?_
        refine q_if_ge (tgt := 95) (pc' := 64) (dk_at dkX1_remember 36 rfl) rfl rfl (cmpz_IR _ _) (fun c61 => ?_) (fun c61 => ?_)
        · rw [cmpz_ge] at c61
          refine q_iinc (pc' := 98) (L' := [some (vR b), some (vI (dn : Int)), some (vI last), some (vI free), some (vJ sum), none, some (vI (ky : Int)), some (vI ((3 * ky : Nat) : Int)), some (vI ((3 * ky + k : Nat) : Int)), some (vI ((3 * ky + l : Nat) : Int)), some (vI (((3 * ky + q : Nat) : Int) + 1))]) (dk_at dkX1_remember 54 rfl) (by decide) rfl rfl rfl ?_
          rw [show (((3 * ky + q : Nat) : Int) + 1) = ((((3 * ky + q) + 1) : Nat) : Int) by omega]
          refine q_goto (tgt := 33) (dk_at dkX1_remember 55 rfl) rfl ?_
          rw [show 3 * ky + q + 1 = 3 * ky + (q + 1) by omega]
          exact ih (q + 1) l _ _ _ (by omega) (RemI_drop hI) hX hS hF
        · rw [cmpz_ge] at c61
          refine q_aload_n (pc' := 65) (dk_at dkX1_remember 37 rfl) rfl rfl ?_
          refine r_getf (pc' := 68) fl_RX1_51 (dk_at dkX1_remember 38 rfl) hX.obj rfl rfl ?_
          refine q_iload (pc' := 70) (dk_at dkX1_remember 39 rfl) rfl rfl ?_
          refine q_aload_n (pc' := 71) (dk_at dkX1_remember 40 rfl) rfl rfl ?_
          refine r_getf (pc' := 74) fl_RX1_51 (dk_at dkX1_remember 41 rfl) hX.obj rfl rfl ?_
          refine q_iload (pc' := 76) (dk_at dkX1_remember 42 rfl) rfl rfl ?_
          refine r_iald (pc' := 77) (dk_at dkX1_remember 43 rfl) hX.seenTime (3 * ky + q) (by omega) (by omega) (by decide) rfl ?_
          refine r_iast (pc' := 78) (dk_at dkX1_remember 44 rfl) hX.seenTime (3 * ky + l) (by omega) (by omega) (by decide) rfl (fun hh6 ehh6 => ?_)
          have hX := hX.w_seenTime ehh6
          have hS := hS.off ehh6 (by omega)
          have hF := hF.put ehh6 (by omega)
          refine q_aload_n (pc' := 79) (dk_at dkX1_remember 45 rfl) rfl rfl ?_
          refine r_getf (pc' := 82) fl_RX1_54 (dk_at dkX1_remember 46 rfl) hX.obj rfl rfl ?_
          refine q_iload (pc' := 84) (dk_at dkX1_remember 47 rfl) rfl rfl ?_
          refine q_aload_n (pc' := 85) (dk_at dkX1_remember 48 rfl) rfl rfl ?_
          refine r_getf (pc' := 88) fl_RX1_54 (dk_at dkX1_remember 49 rfl) hX.obj rfl rfl ?_
          refine q_iload (pc' := 90) (dk_at dkX1_remember 50 rfl) rfl rfl ?_
          refine r_lald (pc' := 91) (dk_at dkX1_remember 51 rfl) hX.seenCost (3 * ky + q) (by omega) (by omega) (by decide) rfl ?_
          refine r_last (pc' := 92) (dk_at dkX1_remember 52 rfl) hX.seenCost (3 * ky + l) (by omega) (by omega) (by decide) rfl (fun hh7 ehh7 => ?_)
          have hX := hX.w_seenCost ehh7
          have hS := hS.off ehh7 (by omega)
          have hF := hF.put ehh7 (by omega)
          refine q_iinc (pc' := 95) (L' := [some (vR b), some (vI (dn : Int)), some (vI last), some (vI free), some (vJ sum), none, some (vI (ky : Int)), some (vI ((3 * ky : Nat) : Int)), some (vI ((3 * ky + k : Nat) : Int)), some (vI (((3 * ky + l : Nat) : Int) + 1)), some (vI ((3 * ky + q : Nat) : Int))]) (dk_at dkX1_remember 53 rfl) (by decide) rfl rfl rfl ?_
          rw [show (((3 * ky + l : Nat) : Int) + 1) = ((((3 * ky + l) + 1) : Nat) : Int) by omega]
          refine q_iinc (pc' := 98) (L' := [some (vR b), some (vI (dn : Int)), some (vI last), some (vI free), some (vJ sum), none, some (vI (ky : Int)), some (vI ((3 * ky : Nat) : Int)), some (vI ((3 * ky + k : Nat) : Int)), some (vI ((((3 * ky + l) + 1) : Nat) : Int)), some (vI (((3 * ky + q : Nat) : Int) + 1))]) (dk_at dkX1_remember 54 rfl) (by decide) rfl rfl rfl ?_
          rw [show (((3 * ky + q : Nat) : Int) + 1) = ((((3 * ky + q) + 1) : Nat) : Int) by omega]
          refine q_goto (tgt := 33) (dk_at dkX1_remember 55 rfl) rfl ?_
          rw [show 3 * ky + q + 1 = 3 * ky + (q + 1) by omega, show 3 * ky + l + 1 = 3 * ky + (l + 1) by omega]
          exact ih (q + 1) (l + 1) _ _ _ (by omega) (RemI_keep hI (by omega)) hX hS hF

set_option maxHeartbeats 4000000 in
set_option maxRecDepth 100000 in
theorem k_Search_remember {d n : Nat} {h : PH} {b : Nat} {S : Shp} {al fi bs fl sc fc : Int} {st fa re wo lg rk ch fo sC sT sX : Nat → Int} {G : Nat → Nat → Int} {dn ky k : Nat} {last free sum : Int} (hd : 1 ≤ d) (hdn : dn < 256) (hl : 0 ≤ last ∧ last ≤ 3) (eky : (ky : Int) = 4 * dn + last) (ek : sC ky = (k : Int)) (hk3 : k ≤ 3) (hsT : ∀ i, 0 ≤ sT i ∧ sT i ≤ 100000) (hsX : ∀ i, -4000000000000 ≤ sX i ∧ sX i ≤ 4000000000000) (hfr : 0 ≤ free ∧ free ≤ 100000) (hsum : -2000000000000 ≤ sum ∧ sum ≤ 2000000000000) (hS : isShp n h (b + 1) S) (hX : isSearch n h b al fi bs fl sc st fa re wo G lg rk ch fo fc sC sT sX) : CtrV mX1_remember d [vR b, vI (dn : Int), vI last, vI free, vJ sum] n h (fun h' => ∃ sC' sT' sX', isSearch n h' b al fi bs fl sc st fa re wo G lg rk ch fo fc sC' sT' sX' ∧ isShp n h' (b + 1) S ∧ RemP ky k free sum sC sT sX sC' sT' sX' ∧ Fr h h' b (b + 31)) := by
  have hky : ky < 1024 := by omega
  refine q_beginV (L := [some (vR b), some (vI (dn : Int)), some (vI last), some (vI free), some (vJ sum), none, none, none, none, none, none]) rfl ?_
  refine q_iload_n (pc' := 1) (dk_at dkX1_remember 0 rfl) rfl rfl ?_
  refine q_iconst (pc' := 2) (dk_at dkX1_remember 1 rfl) rfl ?_
  refine q_imul (pc' := 3) (dk_at dkX1_remember 2 rfl) rfl ?_
  refine q_iload_n (pc' := 4) (dk_at dkX1_remember 3 rfl) rfl rfl ?_
  refine q_iadd (pc' := 5) (dk_at dkX1_remember 4 rfl) rfl ?_
  rw [show (((dn : Int) * 4) + last) = (ky : Int) by omega]
  refine q_istore (pc' := 7) (L' := [some (vR b), some (vI (dn : Int)), some (vI last), some (vI free), some (vJ sum), none, some (vI (ky : Int)), none, none, none, none]) (dk_at dkX1_remember 5 rfl) (by decide) rfl rfl ?_
  refine q_iload (pc' := 9) (dk_at dkX1_remember 6 rfl) rfl rfl ?_
  refine q_iconst (pc' := 10) (dk_at dkX1_remember 7 rfl) rfl ?_
  refine q_imul (pc' := 11) (dk_at dkX1_remember 8 rfl) rfl ?_
  rw [show ((ky : Int) * 3) = ((3 * ky : Nat) : Int) by omega]
  refine q_istore (pc' := 13) (L' := [some (vR b), some (vI (dn : Int)), some (vI last), some (vI free), some (vJ sum), none, some (vI (ky : Int)), some (vI ((3 * ky : Nat) : Int)), none, none, none]) (dk_at dkX1_remember 9 rfl) (by decide) rfl rfl ?_
  refine q_iload (pc' := 15) (dk_at dkX1_remember 10 rfl) rfl rfl ?_
  refine q_aload_n (pc' := 16) (dk_at dkX1_remember 11 rfl) rfl rfl ?_
  refine r_getf (pc' := 19) fl_RX1_48 (dk_at dkX1_remember 12 rfl) hX.obj rfl rfl ?_
  refine q_iload (pc' := 21) (dk_at dkX1_remember 13 rfl) rfl rfl ?_
  refine r_iald (pc' := 22) (dk_at dkX1_remember 14 rfl) hX.seenCount ky (by omega) (by omega) (by decide) rfl ?_
  refine q_iadd (pc' := 23) (dk_at dkX1_remember 15 rfl) rfl ?_
  rw [show (((3 * ky : Nat) : Int) + (sC ky)) = ((3 * ky + k : Nat) : Int) by omega]
  refine q_istore (pc' := 25) (L' := [some (vR b), some (vI (dn : Int)), some (vI last), some (vI free), some (vJ sum), none, some (vI (ky : Int)), some (vI ((3 * ky : Nat) : Int)), some (vI ((3 * ky + k : Nat) : Int)), none, none]) (dk_at dkX1_remember 16 rfl) (by decide) rfl rfl ?_
  refine q_iload (pc' := 27) (dk_at dkX1_remember 17 rfl) rfl rfl ?_
  refine q_istore (pc' := 29) (L' := [some (vR b), some (vI (dn : Int)), some (vI last), some (vI free), some (vJ sum), none, some (vI (ky : Int)), some (vI ((3 * ky : Nat) : Int)), some (vI ((3 * ky + k : Nat) : Int)), some (vI ((3 * ky : Nat) : Int)), none]) (dk_at dkX1_remember 18 rfl) (by decide) rfl rfl ?_
  refine q_iload (pc' := 31) (dk_at dkX1_remember 19 rfl) rfl rfl ?_
  refine q_istore (pc' := 33) (L' := [some (vR b), some (vI (dn : Int)), some (vI last), some (vI free), some (vJ sum), none, some (vI (ky : Int)), some (vI ((3 * ky : Nat) : Int)), some (vI ((3 * ky + k : Nat) : Int)), some (vI ((3 * ky : Nat) : Int)), some (vI ((3 * ky : Nat) : Int))]) (dk_at dkX1_remember 20 rfl) (by decide) rfl rfl ?_
  exact l_remember hd hky hk3 hfr hsum k 0 0 sT sX h (by omega) ⟨Nat.le_refl _, fun i _ => ⟨rfl, rfl⟩, fun x hx => by omega, hsT, hsX⟩ hX hS Fr.rf

def gpI (S : Shp) (i : Nat) (r t : Nat) : Int := if S.wh ≠ 1 ∧ t < i ∧ r = t + 1 then 0 else S.T r t
theorem gpI_4 {S : Shp} {r t : Nat} (ht : t < 4) : gpI S 4 r t = gapS S r t := by
  unfold gpI gapS
  by_cases q : S.wh = 1
  · rw [if_neg (by omega), if_pos q]
  · rw [if_neg q]
    by_cases q2 : r = t + 1
    · rw [if_pos ⟨q, ht, q2⟩, if_pos q2]
    · rw [if_neg (fun z => q2 z.2.2), if_neg q2]
set_option maxHeartbeats 4000000 in
set_option maxRecDepth 100000 in
theorem l_gap1 {d n : Nat} {F : FT} {h : PH} {b : Nat} {S : Shp} {al fi bs fl sc fc : Int} {st fa re wo lg rk ch fo sC sT sX : Nat → Int} {G : Nat → Nat → Int} (hd : 1 ≤ d) (hk : Sok S) (hex : ∀ (G1 : Nat → Nat → Int) (h1 : PH) (i : Int), (∀ r, r < 5 → ∀ t, t < 4 → G1 r t = S.T r t) → isSearch n h1 b al fi bs fl sc st fa re wo G1 lg rk ch fo fc sC sT sX → isShp n h1 (b + 1) S → Fr h h1 b (b + 31) → QN mX1_fillGaps d F 34 [some (vR b), some (vI i), none, none] [] n h1) : ∀ (c : Nat) (i : Nat) (G1 : Nat → Nat → Int) (h1 : PH), (i + c = 5) → (∀ r, G1 r = if r < i then S.T r else G r) → (isSearch n h1 b al fi bs fl sc st fa re wo G1 lg rk ch fo fc sC sT sX) → (isShp n h1 (b + 1) S) → (Fr h h1 b (b + 31)) → QN mX1_fillGaps d F 2 [some (vR b), some (vI (i : Int)), none, none] [] n h1 := by
  intro c
  induction c with
  | zero =>
    intro i G1 h1 hc hv hX hS hF
    refine q_iload_n (pc' := 3) (dk_at dkX1_fillGaps 2 rfl) rfl rfl ?_
    refine q_iconst (pc' := 4) (dk_at dkX1_fillGaps 3 rfl) rfl ?_
    refine q_icmp_gt (tgt := 34) (pc' := 7) (dk_at dkX1_fillGaps 4 rfl) rfl rfl (by omega) (by omega) (fun c4 => ?_) (fun c4 => ?_)
    · exact hex G1 h1 _ (fun r hr t _ => by rw [hv r, if_pos (by omega)]) hX hS hF
    · exfalso
      omega
  | succ c ih =>
    intro i G1 h1 hc hv hX hS hF
    refine q_iload_n (pc' := 3) (dk_at dkX1_fillGaps 2 rfl) rfl rfl ?_
    refine q_iconst (pc' := 4) (dk_at dkX1_fillGaps 3 rfl) rfl ?_
    refine q_icmp_gt (tgt := 34) (pc' := 7) (dk_at dkX1_fillGaps 4 rfl) rfl rfl (by omega) (by omega) (fun c4 => ?_) (fun c4 => ?_)
    · exact hex G1 h1 _ (fun r hr t _ => by rw [hv r, if_pos (by omega)]) hX hS hF
    · refine q_aload_n (pc' := 8) (dk_at dkX1_fillGaps 5 rfl) rfl rfl ?_
      refine r_getf (pc' := 11) fl_RX1_12 (dk_at dkX1_fillGaps 6 rfl) hX.obj rfl rfl ?_
      refine r_getf (pc' := 14) fl_RX1_125 (dk_at dkX1_fillGaps 7 rfl) hS.obj rfl rfl ?_
      refine q_iload_n (pc' := 15) (dk_at dkX1_fillGaps 8 rfl) rfl rfl ?_
      refine r_aald1 (pc' := 16) (dk_at dkX1_fillGaps 9 rfl) hS.setups i (by omega) (by omega) (by decide) rfl ?_
      refine q_iconst (pc' := 17) (dk_at dkX1_fillGaps 10 rfl) rfl ?_
      refine q_aload_n (pc' := 18) (dk_at dkX1_fillGaps 11 rfl) rfl rfl ?_
      refine r_getf (pc' := 21) fl_RX1_33 (dk_at dkX1_fillGaps 12 rfl) hX.obj rfl rfl ?_
      refine q_iload_n (pc' := 22) (dk_at dkX1_fillGaps 13 rfl) rfl rfl ?_
      refine r_aald1 (pc' := 23) (dk_at dkX1_fillGaps 14 rfl) hX.gaps i (by omega) (by omega) (by decide) rfl ?_
      refine q_iconst (pc' := 24) (dk_at dkX1_fillGaps 15 rfl) rfl ?_
      refine q_iconst (pc' := 25) (dk_at dkX1_fillGaps 16 rfl) rfl ?_
      refine r_copyA (pc' := 28) jc_RX1_128 (dk_at dkX1_fillGaps 17 rfl) (hS.setups_at i (by omega)) (hX.gaps_at i (by omega)) rfl (by decide) (by decide) (by omega) (Nat.le_of_ble_eq_true rfl) rfl (fun hh1 ehh1 => ?_)
      have hX := isSearch.w_gaps (by omega) hX ehh1
      have hS := hS.off ehh1 (by omega)
      have hF := hF.put ehh1 (by omega)
      refine q_iinc (pc' := 31) (L' := [some (vR b), some (vI ((i : Int) + 1)), none, none]) (dk_at dkX1_fillGaps 18 rfl) (by decide) rfl rfl rfl ?_
      rw [show ((i : Int) + 1) = ((i + 1 : Nat) : Int) by omega]
      refine q_goto (tgt := 2) (dk_at dkX1_fillGaps 19 rfl) rfl ?_
      exact ih (i + 1) _ _ (by omega) (upf_step hv) hX hS hF

set_option maxHeartbeats 4000000 in
set_option maxRecDepth 100000 in
theorem l_gap2 {d n : Nat} {F : FT} {h : PH} {b : Nat} {S : Shp} {al fi bs fl sc fc : Int} {st fa re wo lg rk ch fo sC sT sX : Nat → Int} {G : Nat → Nat → Int} (hd : 1 ≤ d) (hk : Sok S) (hw : S.wh = 0 ∨ S.wh = 1) (hex : ∀ (G1 : Nat → Nat → Int) (lg1 : Nat → Int) (h1 : PH) (i : Int), (∀ r, r < 5 → ∀ t, t < 4 → G1 r t = gpI S 4 r t) → (∀ f, f < 4 → lg1 f = 60) → isSearch n h1 b al fi bs fl sc st fa re wo G1 lg1 rk ch fo fc sC sT sX → isShp n h1 (b + 1) S → Fr h h1 b (b + 31) → QN mX1_fillGaps d F 76 [some (vR b), some (vI i), none, none] [] n h1) : ∀ (c : Nat) (i : Nat) (G1 : Nat → Nat → Int) (lg1 : Nat → Int) (h1 : PH), (i + c = 4) → (∀ r, r < 5 → ∀ t, t < 4 → G1 r t = gpI S i r t) → (∀ f, f < i → lg1 f = 60) → (isSearch n h1 b al fi bs fl sc st fa re wo G1 lg1 rk ch fo fc sC sT sX) → (isShp n h1 (b + 1) S) → (Fr h h1 b (b + 31)) → QN mX1_fillGaps d F 36 [some (vR b), some (vI (i : Int)), none, none] [] n h1 := by
  intro c
  induction c with
  | zero =>
    intro i G1 lg1 h1 hc hv hlg hX hS hF
    refine q_iload_n (pc' := 37) (dk_at dkX1_fillGaps 22 rfl) rfl rfl ?_
    refine q_iconst (pc' := 38) (dk_at dkX1_fillGaps 23 rfl) rfl ?_
    refine q_icmp_ge (tgt := 76) (pc' := 41) (dk_at dkX1_fillGaps 24 rfl) rfl rfl (by omega) (by omega) (fun c38 => ?_) (fun c38 => ?_)
    · rw [show i = 4 by omega] at hv hlg
      exact hex G1 lg1 h1 _ hv hlg hX hS hF
    · exfalso
      omega
  | succ c ih =>
    intro i G1 lg1 h1 hc hv hlg hX hS hF
    refine q_iload_n (pc' := 37) (dk_at dkX1_fillGaps 22 rfl) rfl rfl ?_
    refine q_iconst (pc' := 38) (dk_at dkX1_fillGaps 23 rfl) rfl ?_
    refine q_icmp_ge (tgt := 76) (pc' := 41) (dk_at dkX1_fillGaps 24 rfl) rfl rfl (by omega) (by omega) (fun c38 => ?_) (fun c38 => ?_)
    · rw [show i = 4 by omega] at hv hlg
      exact hex G1 lg1 h1 _ hv hlg hX hS hF
    · refine q_aload_n (pc' := 42) (dk_at dkX1_fillGaps 25 rfl) rfl rfl ?_
      refine r_getf (pc' := 45) fl_RX1_36 (dk_at dkX1_fillGaps 26 rfl) hX.obj rfl rfl ?_
      refine q_iload_n (pc' := 46) (dk_at dkX1_fillGaps 27 rfl) rfl rfl ?_
      refine q_bipush (pc' := 48) (dk_at dkX1_fillGaps 28 rfl) (by decide +kernel) rfl ?_
      refine r_iast (pc' := 49) (dk_at dkX1_fillGaps 29 rfl) hX.leastGap i (by omega) (by omega) (by decide) rfl (fun hh1 ehh1 => ?_)
      have hX := hX.w_leastGap ehh1
      have hS := hS.off ehh1 (by omega)
      have hF := hF.put ehh1 (by omega)
      refine q_aload_n (pc' := 50) (dk_at dkX1_fillGaps 30 rfl) rfl rfl ?_
      refine r_getf (pc' := 53) fl_RX1_12 (dk_at dkX1_fillGaps 31 rfl) hX.obj rfl rfl ?_
      refine r_getf (pc' := 56) fl_RX1_118 (dk_at dkX1_fillGaps 32 rfl) hS.obj rfl rfl ?_
      refine q_if_ne (tgt := 70) (pc' := 59) (dk_at dkX1_fillGaps 33 rfl) rfl rfl (by omega) (fun c56 => ?_) (fun c56 => ?_)
      · refine q_iinc (pc' := 73) (L' := [some (vR b), some (vI ((i : Int) + 1)), none, none]) (dk_at dkX1_fillGaps 43 rfl) (by decide) rfl rfl rfl ?_
        rw [show ((i : Int) + 1) = ((i + 1 : Nat) : Int) by omega]
        refine q_goto (tgt := 36) (dk_at dkX1_fillGaps 44 rfl) rfl ?_
        refine ih (i + 1) _ _ _ (by omega) ?_ ?_ hX hS hF
        · intro r hr t ht; rw [hv r hr t ht]; unfold gpI; rw [if_neg (by omega), if_neg (by omega)]
        · intro f hf
          by_cases q : f = i
          · subst q; rw [upz_eq]
          · rw [upz_ne q]; exact hlg f (by omega)
      · refine q_aload_n (pc' := 60) (dk_at dkX1_fillGaps 34 rfl) rfl rfl ?_
        refine r_getf (pc' := 63) fl_RX1_33 (dk_at dkX1_fillGaps 35 rfl) hX.obj rfl rfl ?_
        refine q_iload_n (pc' := 64) (dk_at dkX1_fillGaps 36 rfl) rfl rfl ?_
        refine q_iconst (pc' := 65) (dk_at dkX1_fillGaps 37 rfl) rfl ?_
        refine q_iadd (pc' := 66) (dk_at dkX1_fillGaps 38 rfl) rfl ?_
        refine r_aald1 (pc' := 67) (dk_at dkX1_fillGaps 39 rfl) hX.gaps (i + 1) (by omega) (by omega) (by decide) rfl ?_
        refine q_iload_n (pc' := 68) (dk_at dkX1_fillGaps 40 rfl) rfl rfl ?_
        refine q_iconst (pc' := 69) (dk_at dkX1_fillGaps 41 rfl) rfl ?_
        refine r_iast (pc' := 70) (dk_at dkX1_fillGaps 42 rfl) (hX.gaps_at (i + 1) (by omega)) i (by omega) (by omega) (by decide) rfl (fun hh2 ehh2 => ?_)
        have hX := isSearch.w_gaps (by omega) hX ehh2
        have hS := hS.off ehh2 (by omega)
        have hF := hF.put ehh2 (by omega)
        refine q_iinc (pc' := 73) (L' := [some (vR b), some (vI ((i : Int) + 1)), none, none]) (dk_at dkX1_fillGaps 43 rfl) (by decide) rfl rfl rfl ?_
        rw [show ((i : Int) + 1) = ((i + 1 : Nat) : Int) by omega]
        refine q_goto (tgt := 36) (dk_at dkX1_fillGaps 44 rfl) rfl ?_
        refine ih (i + 1) _ _ _ (by omega) ?_ ?_ hX hS hF
        · intro r hr t ht
          by_cases q : r = i + 1
          · subst q
            rw [upf_eq]
            by_cases q2 : t = i
            · subst q2
              rw [upz_eq]; unfold gpI; rw [if_pos ⟨by omega, by omega, rfl⟩]
            · rw [upz_ne q2, hv _ hr t ht]; unfold gpI; rw [if_neg (by omega), if_neg (by omega)]
          · rw [upf_ne q, hv r hr t ht]; unfold gpI
            by_cases q3 : S.wh ≠ 1 ∧ t < i ∧ r = t + 1
            · rw [if_pos q3, if_pos ⟨q3.1, by omega, q3.2.2⟩]
            · rw [if_neg q3, if_neg (by omega)]
        · intro f hf
          by_cases q : f = i
          · subst q; rw [upz_eq]
          · rw [upz_ne q]; exact hlg f (by omega)

set_option maxHeartbeats 4000000 in
set_option maxRecDepth 100000 in
theorem l_gap3 {d n : Nat} {F : FT} {h : PH} {b : Nat} {S : Shp} {al fi bs fl sc fc : Int} {st fa re wo lg rk ch fo sC sT sX : Nat → Int} {G : Nat → Nat → Int} (hd : 1 ≤ d) (hk : Sok S) {G1 : Nat → Nat → Int} {j : Nat} (hfj : 0 ≤ S.V 0 j ∧ S.V 0 j ≤ 3) (hv : ∀ r, r < 5 → ∀ t, t < 4 → G1 r t = gapS S r t) (hex : ∀ (lg1 : Nat → Int) (h1 : PH) (to : Int), (∀ f, f < 4 → lg1 f = lgTo S f (j + 1)) → isSearch n h1 b al fi bs fl sc st fa re wo G1 lg1 rk ch fo fc sC sT sX → isShp n h1 (b + 1) S → Fr h h1 b (b + 31) → QN mX1_fillGaps d F 144 [some (vR b), some (vI (j : Int)), some (vI (S.V 0 j)), some (vI to)] [] n h1) : ∀ (c : Nat) (to : Nat) (lg1 : Nat → Int) (h1 : PH), (to + c = 4) → (∀ f, f < 4 → lg1 f = if f < to then lgTo S f (j + 1) else lgTo S f j) → (∀ f, f < 4 → 0 ≤ lg1 f ∧ lg1 f ≤ 60) → (isSearch n h1 b al fi bs fl sc st fa re wo G1 lg1 rk ch fo fc sC sT sX) → (isShp n h1 (b + 1) S) → (Fr h h1 b (b + 31)) → QN mX1_fillGaps d F 103 [some (vR b), some (vI (j : Int)), some (vI (S.V 0 j)), some (vI (to : Int))] [] n h1 := by
  intro c
  induction c with
  | zero =>
    intro to lg1 h1 hc hlg hlgr hX hS hF
    refine q_iload_n (pc' := 104) (dk_at dkX1_fillGaps 62 rfl) rfl rfl ?_
    refine q_iconst (pc' := 105) (dk_at dkX1_fillGaps 63 rfl) rfl ?_
    refine q_icmp_ge (tgt := 144) (pc' := 108) (dk_at dkX1_fillGaps 64 rfl) rfl rfl (by omega) (by omega) (fun c105 => ?_) (fun c105 => ?_)
    · exact hex lg1 h1 _ (fun f hf => by rw [hlg f hf, if_pos (by omega)]) hX hS hF
    · exfalso
      omega
  | succ c ih =>
    intro to lg1 h1 hc hlg hlgr hX hS hF
    refine q_iload_n (pc' := 104) (dk_at dkX1_fillGaps 62 rfl) rfl rfl ?_
    refine q_iconst (pc' := 105) (dk_at dkX1_fillGaps 63 rfl) rfl ?_
    refine q_icmp_ge (tgt := 144) (pc' := 108) (dk_at dkX1_fillGaps 64 rfl) rfl rfl (by omega) (by omega) (fun c105 => ?_) (fun c105 => ?_)
    · exact hex lg1 h1 _ (fun f hf => by rw [hlg f hf, if_pos (by omega)]) hX hS hF
    · refine q_iload_n (pc' := 109) (dk_at dkX1_fillGaps 65 rfl) rfl rfl ?_
      refine q_iload_n (pc' := 110) (dk_at dkX1_fillGaps 66 rfl) rfl rfl ?_
      refine q_icmp_eq (tgt := 138) (pc' := 113) (dk_at dkX1_fillGaps 67 rfl) rfl rfl (by omega) (by omega) (fun c110 => ?_) (fun c110 => ?_)
      · refine q_iinc (pc' := 141) (L' := [some (vR b), some (vI (j : Int)), some (vI (S.V 0 j)), some (vI ((to : Int) + 1))]) (dk_at dkX1_fillGaps 85 rfl) (by decide) rfl rfl rfl ?_
        rw [show ((to : Int) + 1) = ((to + 1 : Nat) : Int) by omega]
        refine q_goto (tgt := 103) (dk_at dkX1_fillGaps 86 rfl) rfl ?_
        refine ih (to + 1) _ _ (by omega) ?_ ?_ hX hS hF
        · intro f hf
          by_cases q : f = to
          · subst q; rw [hlg f hf, if_neg (by omega), if_pos (by omega)]; show _ = (if _ then _ else _); rw [if_pos (by omega)]
          · rw [hlg f hf]
            by_cases q2 : f < to
            · rw [if_pos q2, if_pos (by omega)]
            · rw [if_neg q2, if_neg (by omega)]
        · exact hlgr
      · refine q_aload_n (pc' := 114) (dk_at dkX1_fillGaps 68 rfl) rfl rfl ?_
        refine r_getf (pc' := 117) fl_RX1_36 (dk_at dkX1_fillGaps 69 rfl) hX.obj rfl rfl ?_
        refine q_iload_n (pc' := 118) (dk_at dkX1_fillGaps 70 rfl) rfl rfl ?_
        refine q_aload_n (pc' := 119) (dk_at dkX1_fillGaps 71 rfl) rfl rfl ?_
        refine r_getf (pc' := 122) fl_RX1_36 (dk_at dkX1_fillGaps 72 rfl) hX.obj rfl rfl ?_
        refine q_iload_n (pc' := 123) (dk_at dkX1_fillGaps 73 rfl) rfl rfl ?_
        have hlr := hlgr to (by omega)
        refine r_iald (pc' := 124) (dk_at dkX1_fillGaps 74 rfl) hX.leastGap to (by omega) (by omega) (by decide) rfl ?_
        refine q_aload_n (pc' := 125) (dk_at dkX1_fillGaps 75 rfl) rfl rfl ?_
        refine r_getf (pc' := 128) fl_RX1_33 (dk_at dkX1_fillGaps 76 rfl) hX.obj rfl rfl ?_
        refine q_iload_n (pc' := 129) (dk_at dkX1_fillGaps 77 rfl) rfl rfl ?_
        refine q_iconst (pc' := 130) (dk_at dkX1_fillGaps 78 rfl) rfl ?_
        refine q_iadd (pc' := 131) (dk_at dkX1_fillGaps 79 rfl) rfl ?_
        refine r_aald1 (pc' := 132) (dk_at dkX1_fillGaps 80 rfl) hX.gaps ((((S.V 0 j) + 1)).toNat) (by omega) (by omega) (by decide) rfl ?_
        refine q_iload_n (pc' := 133) (dk_at dkX1_fillGaps 81 rfl) rfl rfl ?_
        have hgr := gapS_r hk.t (S.V 0 j + 1).toNat to
        have hge := hv (S.V 0 j + 1).toNat (by omega) to (by omega)
        refine r_iald (pc' := 134) (dk_at dkX1_fillGaps 82 rfl) (hX.gaps_at ((((S.V 0 j) + 1)).toNat) (by omega)) to (by omega) (by omega) (by decide) rfl ?_
        refine q_min (pc' := 137) jk_RX1_137 (dk_at dkX1_fillGaps 83 rfl) (by omega) (by omega) (by omega) (Nat.zero_le _) (Nat.zero_le _) (Nat.le_of_ble_eq_true rfl) rfl ?_
        refine r_iast (pc' := 138) (dk_at dkX1_fillGaps 84 rfl) hX.leastGap to (by omega) (by omega) (by decide) rfl (fun hh1 ehh1 => ?_)
        have hX := hX.w_leastGap ehh1
        have hS := hS.off ehh1 (by omega)
        have hF := hF.put ehh1 (by omega)
        refine q_iinc (pc' := 141) (L' := [some (vR b), some (vI (j : Int)), some (vI (S.V 0 j)), some (vI ((to : Int) + 1))]) (dk_at dkX1_fillGaps 85 rfl) (by decide) rfl rfl rfl ?_
        rw [show ((to : Int) + 1) = ((to + 1 : Nat) : Int) by omega]
        refine q_goto (tgt := 103) (dk_at dkX1_fillGaps 86 rfl) rfl ?_
        refine ih (to + 1) _ _ (by omega) ?_ ?_ hX hS hF
        · intro f hf
          by_cases q : f = to
          · subst q; rw [upz_eq, if_pos (by omega), hlg f hf, if_neg (by omega), hge]; show _ = (if _ then _ else _); rw [if_neg (by omega)]
          · rw [upz_ne q, hlg f hf]
            by_cases q2 : f < to
            · rw [if_pos q2, if_pos (by omega)]
            · rw [if_neg q2, if_neg (by omega)]
        · intro f hf
          by_cases q : f = to
          · subst q; rw [upz_eq]; omega
          · rw [upz_ne q]; exact hlgr f hf

set_option maxHeartbeats 4000000 in
set_option maxRecDepth 100000 in
theorem l_gap4 {d n : Nat} {h : PH} {b : Nat} {S : Shp} {al fi bs fl sc fc : Int} {st fa re wo lg rk ch fo sC sT sX : Nat → Int} {G : Nat → Nat → Int} {G1 : Nat → Nat → Int} (hd : 1 ≤ d) (hk : Sok S) (hV : Vok S.V) (hT : Tok S.T) (hc8 : S.cnt ≤ 8) (hv : ∀ r, r < 5 → ∀ t, t < 4 → G1 r t = gapS S r t) : ∀ (c : Nat) (j : Nat) (lg1 : Nat → Int) (h1 : PH) (x2 x3 : Option PV), (j + c = S.cnt) → (∀ f, f < 4 → lg1 f = lgTo S f j) → (isSearch n h1 b al fi bs fl sc st fa re wo G1 lg1 rk ch fo fc sC sT sX) → (isShp n h1 (b + 1) S) → (Fr h h1 b (b + 31)) → QN mX1_fillGaps d (FV n (fun h' => ∃ G' lg', isSearch n h' b al fi bs fl sc st fa re wo G' lg' rk ch fo fc sC sT sX ∧ isShp n h' (b + 1) S ∧ Gok S G' lg' ∧ Fr h h' b (b + 31))) 78 [some (vR b), some (vI (j : Int)), x2, x3] [] n h1 := by
  intro c
  induction c with
  | zero =>
    intro j lg1 h1 x2 x3 hc hlg hX hS hF
    refine q_iload_n (pc' := 79) (dk_at dkX1_fillGaps 47 rfl) rfl rfl ?_
    refine q_aload_n (pc' := 80) (dk_at dkX1_fillGaps 48 rfl) rfl rfl ?_
    refine r_getf (pc' := 83) fl_RX1_12 (dk_at dkX1_fillGaps 49 rfl) hX.obj rfl rfl ?_
    refine r_getf (pc' := 86) fl_RX1_76 (dk_at dkX1_fillGaps 50 rfl) hS.obj rfl rfl ?_
    refine q_icmp_ge (tgt := 150) (pc' := 89) (dk_at dkX1_fillGaps 51 rfl) rfl rfl (by omega) (by omega) (fun c86 => ?_) (fun c86 => ?_)
    · refine r_vret rfl (dk_at dkX1_fillGaps 89 rfl) ?_
      exact ⟨G1, lg1, hX, hS, ⟨fun r t hr ht => hv r hr t ht, fun f hf => by rw [hlg f hf, show j = S.cnt by omega]⟩, hF⟩
    · exfalso
      omega
  | succ c ih =>
    intro j lg1 h1 x2 x3 hc hlg hX hS hF
    refine q_iload_n (pc' := 79) (dk_at dkX1_fillGaps 47 rfl) rfl rfl ?_
    refine q_aload_n (pc' := 80) (dk_at dkX1_fillGaps 48 rfl) rfl rfl ?_
    refine r_getf (pc' := 83) fl_RX1_12 (dk_at dkX1_fillGaps 49 rfl) hX.obj rfl rfl ?_
    refine r_getf (pc' := 86) fl_RX1_76 (dk_at dkX1_fillGaps 50 rfl) hS.obj rfl rfl ?_
    refine q_icmp_ge (tgt := 150) (pc' := 89) (dk_at dkX1_fillGaps 51 rfl) rfl rfl (by omega) (by omega) (fun c86 => ?_) (fun c86 => ?_)
    · refine r_vret rfl (dk_at dkX1_fillGaps 89 rfl) ?_
      exact ⟨G1, lg1, hX, hS, ⟨fun r t hr ht => hv r hr t ht, fun f hf => by rw [hlg f hf, show j = S.cnt by omega]⟩, hF⟩
    · refine q_aload_n (pc' := 90) (dk_at dkX1_fillGaps 52 rfl) rfl rfl ?_
      refine r_getf (pc' := 93) fl_RX1_12 (dk_at dkX1_fillGaps 53 rfl) hX.obj rfl rfl ?_
      refine r_getf (pc' := 96) fl_RX1_134 (dk_at dkX1_fillGaps 54 rfl) hS.obj rfl rfl ?_
      refine q_iconst (pc' := 97) (dk_at dkX1_fillGaps 55 rfl) rfl ?_
      refine r_aald1 (pc' := 98) (dk_at dkX1_fillGaps 56 rfl) hS.values 0 (by omega) (by omega) (by decide) rfl ?_
      refine q_iload_n (pc' := 99) (dk_at dkX1_fillGaps 57 rfl) rfl rfl ?_
      refine r_iald (pc' := 100) (dk_at dkX1_fillGaps 58 rfl) (hS.values_at 0 (by omega)) j (by omega) (by omega) (by decide) rfl ?_
      have bb1 := hV 0 j
      refine q_istore_n (pc' := 101) (L' := [some (vR b), some (vI (j : Int)), some (vI ((S.V 0) j)), x3]) (dk_at dkX1_fillGaps 59 rfl) (by decide) rfl rfl ?_
      have hfj : 0 ≤ S.V 0 j ∧ S.V 0 j ≤ 3 := by have := hk.v 0 j; omega
      refine q_iconst (pc' := 102) (dk_at dkX1_fillGaps 60 rfl) rfl ?_
      refine q_istore_n (pc' := 103) (L' := [some (vR b), some (vI (j : Int)), some (vI ((S.V 0) j)), some (vI 0)]) (dk_at dkX1_fillGaps 61 rfl) (by decide) rfl rfl ?_
      refine l_gap3 (h := h) (G := G) (lg := lg) hd hk hfj hv ?_ 4 0 lg1 h1 (by omega) (fun f hf => by rw [if_neg (by omega)]; exact hlg f hf) (fun f hf => by rw [hlg f hf]; exact lgTo_r hk.t f j) hX hS hF
      intro lg2 h2 to hlg2 hX hS hF
      refine q_iinc (pc' := 147) (L' := [some (vR b), some (vI ((j : Int) + 1)), some (vI ((S.V 0) j)), some (vI to)]) (dk_at dkX1_fillGaps 87 rfl) (by decide) rfl rfl rfl ?_
      rw [show ((j : Int) + 1) = ((j + 1 : Nat) : Int) by omega]
      refine q_goto (tgt := 78) (dk_at dkX1_fillGaps 88 rfl) rfl ?_
      exact ih (j + 1) lg2 _ _ _ (by omega) hlg2 hX hS hF

set_option maxHeartbeats 4000000 in
set_option maxRecDepth 100000 in
theorem k_Search_fillGaps {d n : Nat} {h : PH} {b : Nat} {S : Shp} {al fi bs fl sc fc : Int} {st fa re wo lg rk ch fo sC sT sX : Nat → Int} {G : Nat → Nat → Int} (hd : 1 ≤ d) (hk : Sok S) (hS : isShp n h (b + 1) S) (hX : isSearch n h b al fi bs fl sc st fa re wo G lg rk ch fo fc sC sT sX) : CtrV mX1_fillGaps d [vR b] n h (fun h' => ∃ G' lg', isSearch n h' b al fi bs fl sc st fa re wo G' lg' rk ch fo fc sC sT sX ∧ isShp n h' (b + 1) S ∧ Gok S G' lg' ∧ Fr h h' b (b + 31)) := by
  refine q_beginV (L := [some (vR b), none, none, none]) rfl ?_
  refine q_iconst (pc' := 1) (dk_at dkX1_fillGaps 0 rfl) rfl ?_
  refine q_istore_n (pc' := 2) (L' := [some (vR b), some (vI 0), none, none]) (dk_at dkX1_fillGaps 1 rfl) (by decide) rfl rfl ?_
  refine l_gap1 (h := h) (G := G) hd hk ?_ 5 0 G h (by omega) (fun r => by rw [if_neg (by omega)]) hX hS Fr.rf
  intro G1 h1 i hv hX hS hF
  refine q_iconst (pc' := 35) (dk_at dkX1_fillGaps 20 rfl) rfl ?_
  refine q_istore_n (pc' := 36) (L' := [some (vR b), some (vI 0), none, none]) (dk_at dkX1_fillGaps 21 rfl) (by decide) rfl rfl ?_
  refine l_gap2 (h := h) (G := G) (lg := lg) hd hk hk.w ?_ 4 0 G1 lg h1 (by omega) (fun r hr t ht => by rw [hv r hr t ht]; unfold gpI; rw [if_neg (by omega)]) (fun f hf => by omega) hX hS hF
  intro G2 lg2 h2 i2 hv2 hlg hX hS hF
  refine q_iconst (pc' := 77) (dk_at dkX1_fillGaps 45 rfl) rfl ?_
  refine q_istore_n (pc' := 78) (L' := [some (vR b), some (vI 0), none, none]) (dk_at dkX1_fillGaps 46 rfl) (by decide) rfl rfl ?_
  exact l_gap4 (G := G) (lg := lg) hd hk hk.v hk.t hk.c (fun r hr t ht => by rw [hv2 r hr t ht]; exact gpI_4 ht) S.cnt 0 lg2 h2 none none (by omega) (fun f hf => hlg f hf) hX hS hF
