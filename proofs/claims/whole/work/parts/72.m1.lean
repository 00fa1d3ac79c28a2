/-! BatchMachineModel: its array holds a shop and a plan; the leaves -/
def MR (A : Nat → Int) (S : Shp) : Prop := A 0 = (S.cnt : Int) ∧ (∀ w j, w < 5 → j < S.cnt → A (1 + 5 * j + w) = S.V w j) ∧ (∀ t, t < 4 → A (41 + t) = S.T 0 t) ∧ (∀ f t, f < 4 → t < 4 → A (45 + 4 * f + t) = S.T (f + 1) t) ∧ A 61 = S.wh ∧ A 62 = S.er ∧ A 63 = S.ob
theorem MR.c {A : Nat → Int} {S : Shp} (h : MR A S) : A 0 = (S.cnt : Int) := h.1
theorem MR.v {A : Nat → Int} {S : Shp} (h : MR A S) {w j : Nat} (hw : w < 5) (hj : j < S.cnt) : A (1 + 5 * j + w) = S.V w j := h.2.1 w j hw hj
theorem MR.t0 {A : Nat → Int} {S : Shp} (h : MR A S) {t : Nat} (ht : t < 4) : A (41 + t) = S.T 0 t := h.2.2.1 t ht
theorem MR.t {A : Nat → Int} {S : Shp} (h : MR A S) {f t : Nat} (hf : f < 4) (ht : t < 4) : A (45 + 4 * f + t) = S.T (f + 1) t := h.2.2.2.1 f t hf ht
theorem MR.w {A : Nat → Int} {S : Shp} (h : MR A S) : A 61 = S.wh := h.2.2.2.2.1
theorem MR.e {A : Nat → Int} {S : Shp} (h : MR A S) : A 62 = S.er := h.2.2.2.2.2.1
theorem MR.o {A : Nat → Int} {S : Shp} (h : MR A S) : A 63 = S.ob := h.2.2.2.2.2.2
/-- is place k the first of a batch -/
def BgF (e : Nat → Int) (bc k : Nat) : Prop := ∃ b, b < bc ∧ bgn e b = k
/-- a sequence with marks where batches begin, and a plan -/
def SqP (sq op : Nat → Int) (P : PlS) : Prop := (∀ k, k < P.sz → sq k = P.od k) ∧ ∀ k, k < P.sz → YN (op k) (BgF P.en P.bc k)
def MP (A : Nat → Int) (P : PlS) : Prop := A 64 = (P.sz : Int) ∧ SqP (fun k => A (65 + k)) (fun k => A (73 + k)) P
def MRP (A : Nat → Int) (x : Snp) : Prop := MR A x.S ∧ MP A x.P
theorem MR.cong {A A' : Nat → Int} {S : Shp} (h : MR A S) (he : ∀ k, k < 64 → A' k = A k) (hc : S.cnt ≤ 8) : MR A' S := by
  refine ⟨?_, fun w j hw hj => ?_, fun t ht => ?_, fun f t hf ht => ?_, ?_, ?_, ?_⟩
  · rw [he 0 (by omega)]; exact h.1
  · rw [he _ (by omega)]; exact h.v hw hj
  · rw [he _ (by omega)]; exact h.t0 ht
  · rw [he _ (by omega)]; exact h.t hf ht
  · rw [he 61 (by omega)]; exact h.w
  · rw [he 62 (by omega)]; exact h.e
  · rw [he 63 (by omega)]; exact h.o
theorem MP.cong {A A' : Nat → Int} {P : PlS} (h : MP A P) (he : ∀ k, 64 ≤ k → k < 81 → A' k = A k) (hc : P.sz ≤ 8) : MP A' P := by
  refine ⟨?_, fun k hk => ?_, fun k hk => ?_⟩
  · rw [he 64 (by omega) (by omega)]; exact h.1
  · show A' (65 + k) = _
    rw [he _ (by omega) (by omega)]; exact h.2.1 k hk
  · show YN (A' (73 + k)) _
    rw [he _ (by omega) (by omega)]; exact h.2.2 k hk
set_option maxHeartbeats 4000000 in
set_option maxRecDepth 100000 in
theorem k_M_in {d n : Nat} {h : PH} {v lo hi : Int} (h1 : LR v) (h2 : LR lo) (h3 : LR hi) : CtrI mX6_in d [vJ v, vJ lo, vJ hi] n h (fun x h' => h' = h ∧ YN x (lo ≤ v ∧ v ≤ hi)) := by
  refine q_beginI (L := [some (vJ v), none, some (vJ lo), none, some (vJ hi), none]) rfl ?_
  refine q_lload_n (pc' := 1) (dk_at dkX6_in 0 rfl) rfl rfl ?_
  refine q_lload_n (pc' := 2) (dk_at dkX6_in 1 rfl) rfl rfl ?_
  refine q_lcmp (pc' := 3) (dk_at dkX6_in 2 rfl) (by omega) (by omega) rfl ?_
  refine q_if_lt (tgt := 17) (pc' := 6) (dk_at dkX6_in 3 rfl) rfl rfl (cmpz_IR _ _) (fun c3 => ?_) (fun c3 => ?_)
  · rw [cmpz_lt] at c3
    refine q_iconst (pc' := 18) (dk_at dkX6_in 10 rfl) rfl ?_
    refine r_zret rfl (by omega) (dk_at dkX6_in 11 rfl) ?_
    exact ⟨rfl, Or.inr ⟨rfl, by omega⟩⟩
  · rw [cmpz_lt] at c3
    refine q_lload_n (pc' := 7) (dk_at dkX6_in 4 rfl) rfl rfl ?_
    refine q_lload (pc' := 9) (dk_at dkX6_in 5 rfl) rfl rfl ?_
    refine q_lcmp (pc' := 10) (dk_at dkX6_in 6 rfl) (by omega) (by omega) rfl ?_
    refine q_if_gt (tgt := 17) (pc' := 13) (dk_at dkX6_in 7 rfl) rfl rfl (cmpz_IR _ _) (fun c10 => ?_) (fun c10 => ?_)
    · rw [cmpz_gt] at c10
      refine q_iconst (pc' := 18) (dk_at dkX6_in 10 rfl) rfl ?_
      refine r_zret rfl (by omega) (dk_at dkX6_in 11 rfl) ?_
      exact ⟨rfl, Or.inr ⟨rfl, by omega⟩⟩
    · rw [cmpz_gt] at c10
      refine q_iconst (pc' := 14) (dk_at dkX6_in 8 rfl) rfl ?_
      refine q_goto (tgt := 18) (dk_at dkX6_in 9 rfl) rfl ?_
      refine r_zret rfl (by omega) (dk_at dkX6_in 11 rfl) ?_
      exact ⟨rfl, Or.inl ⟨rfl, by omega, by omega⟩⟩

set_option maxHeartbeats 4000000 in
set_option maxRecDepth 100000 in
theorem k_M_later {d n : Nat} {h : PH} {a b : Int} (h1 : IR a) (h2 : IR b) : CtrI mX6_later d [vI a, vI b] n h (fun x h' => h' = h ∧ x = max a b) := by
  refine q_beginI (L := [some (vI a), some (vI b)]) rfl ?_
  refine q_iload_n (pc' := 1) (dk_at dkX6_later 0 rfl) rfl rfl ?_
  refine q_iload_n (pc' := 2) (dk_at dkX6_later 1 rfl) rfl rfl ?_
  refine q_icmp_le (tgt := 9) (pc' := 5) (dk_at dkX6_later 2 rfl) rfl rfl (by omega) (by omega) (fun c2 => ?_) (fun c2 => ?_)
  · refine q_iload_n (pc' := 10) (dk_at dkX6_later 5 rfl) rfl rfl ?_
    refine r_iret rfl (dk_at dkX6_later 6 rfl) ?_
    exact ⟨rfl, by omega⟩
  · refine q_iload_n (pc' := 6) (dk_at dkX6_later 3 rfl) rfl rfl ?_
    refine q_goto (tgt := 10) (dk_at dkX6_later 4 rfl) rfl ?_
    refine r_iret rfl (dk_at dkX6_later 6 rfl) ?_
    exact ⟨rfl, by omega⟩

set_option maxHeartbeats 4000000 in
set_option maxRecDepth 100000 in
theorem k_M_has {d n : Nat} {h : PH} {s k : Nat} (h1 : s ≤ 100000) (h2 : k ≤ 31) : CtrI mX6_has d [vI (s : Int), vI (k : Int)] n h (fun x h' => h' = h ∧ YN x (s / 2 ^ k % 2 = 1)) := by
  refine q_beginI (L := [some (vI (s : Int)), some (vI (k : Int))]) rfl ?_
  refine q_iload_n (pc' := 1) (dk_at dkX6_has 0 rfl) rfl rfl ?_
  refine q_iload_n (pc' := 2) (dk_at dkX6_has 1 rfl) rfl rfl ?_
  refine q_ishr (pc' := 3) (dk_at dkX6_has 2 rfl) (by omega) (by omega) rfl ?_
  have bb1 := nt_shr_r s k
  rw [show ((s : Int) / 2 ^ ((k : Int)).toNat) = ((s / 2 ^ k : Nat) : Int) from nt_shr s k]
  refine q_iconst (pc' := 4) (dk_at dkX6_has 3 rfl) rfl ?_
  refine q_iand (pc' := 5) (dk_at dkX6_has 4 rfl) (by omega) (by omega) rfl ?_
  rw [show (((((s / 2 ^ k : Nat) : Int)).toNat &&& (1 : Int).toNat : Nat) : Int) = (((s / 2 ^ k) % 2 : Nat) : Int) from nt_bit (s / 2 ^ k)]
  refine q_iconst (pc' := 6) (dk_at dkX6_has 5 rfl) rfl ?_
  refine q_icmp_ne (tgt := 13) (pc' := 9) (dk_at dkX6_has 6 rfl) rfl rfl (by omega) (by omega) (fun c6 => ?_) (fun c6 => ?_)
  · refine q_iconst (pc' := 14) (dk_at dkX6_has 9 rfl) rfl ?_
    refine r_zret rfl (by omega) (dk_at dkX6_has 10 rfl) ?_
    exact ⟨rfl, Or.inr ⟨rfl, by omega⟩⟩
  · refine q_iconst (pc' := 10) (dk_at dkX6_has 7 rfl) rfl ?_
    refine q_goto (tgt := 14) (dk_at dkX6_has 8 rfl) rfl ?_
    refine r_zret rfl (by omega) (dk_at dkX6_has 10 rfl) ?_
    exact ⟨rfl, Or.inl ⟨rfl, by omega⟩⟩

set_option maxHeartbeats 4000000 in
set_option maxRecDepth 100000 in
theorem k_M_isValue {d n : Nat} {h : PH} {w v : Int} (hd : 1 ≤ d) (h1 : 0 ≤ w ∧ w < 5) (h2 : IR v) : CtrI mX6_isValue d [vI w, vI v] n h (fun x h' => h' = h ∧ YN x (vOk w v)) := by
  refine q_beginI (L := [some (vI w), some (vI v)]) rfl ?_
  refine q_iload_n (pc' := 1) (dk_at dkX6_isValue 0 rfl) rfl rfl ?_
  rcases (show w = 0 ∨ w = 1 ∨ w = 2 ∨ w = 3 ∨ (w < 0 ∨ 3 < w) by omega) with q1 | q1 | q1 | q1 | q1
  · refine q_tableIn (tgt := 32) (dk_at dkX6_isValue 1 rfl) (by omega) (by omega) (by omega) (by rw [q1]; rfl) rfl ?_
    refine q_iload_n (pc' := 33) (dk_at dkX6_isValue 2 rfl) rfl rfl ?_
    refine q_i2l (pc' := 34) (dk_at dkX6_isValue 3 rfl) (by omega) rfl ?_
    refine q_lconst0 (pc' := 35) (dk_at dkX6_isValue 4 rfl) rfl ?_
    refine q_ldc2 (pc' := 38) (z := 3) kc_RX6_77 (by decide +kernel) (dk_at dkX6_isValue 5 rfl) rfl ?_
    refine r_cSI (pc' := 41) (As := [vJ v, vJ 0, vJ 3]) (S := []) cs_RX6_73 (dk_at dkX6_isValue 6 rfl) (k_M_in (d := 0) (by omega) (by omega) (by omega)) (by omega) (Nat.zero_le _) (Nat.zero_le _) rfl (Nat.le_of_ble_eq_true rfl) rfl (Nat.le_of_ble_eq_true rfl) rfl (fun xx1 hh2 hphh2 => ?_)
    obtain ⟨qq3, y38⟩ := hphh2
    rw [qq3]
    have yr38 := y38.r
    refine r_zret rfl (by omega) (dk_at dkX6_isValue 7 rfl) ?_
    refine ⟨rfl, ?_⟩
    rcases y38 with ⟨z1, z2⟩ | ⟨z1, z2⟩
    · refine Or.inl ⟨z1, ⟨by omega, by omega⟩, ?_⟩
      unfold rowLo rowHi
      first | (rw [q1]; exact ⟨z2.1, z2.2⟩) | (rw [show w = 4 by omega]; exact ⟨z2.1, z2.2⟩)
    · refine Or.inr ⟨z1, fun z => z2 ?_⟩
      have z3 := z.2
      unfold rowLo rowHi at z3
      first | (rw [q1] at z3; exact ⟨z3.1, z3.2⟩) | (rw [show w = 4 by omega] at z3; exact ⟨z3.1, z3.2⟩)
  · refine q_tableIn (tgt := 42) (dk_at dkX6_isValue 1 rfl) (by omega) (by omega) (by omega) (by rw [q1]; rfl) rfl ?_
    refine q_iload_n (pc' := 43) (dk_at dkX6_isValue 8 rfl) rfl rfl ?_
    refine q_i2l (pc' := 44) (dk_at dkX6_isValue 9 rfl) (by omega) rfl ?_
    refine q_lconst1 (pc' := 45) (dk_at dkX6_isValue 10 rfl) rfl ?_
    refine q_ldc2 (pc' := 48) (z := 50) kc_RX6_79 (by decide +kernel) (dk_at dkX6_isValue 11 rfl) rfl ?_
    refine r_cSI (pc' := 51) (As := [vJ v, vJ 1, vJ 50]) (S := []) cs_RX6_73 (dk_at dkX6_isValue 12 rfl) (k_M_in (d := 0) (by omega) (by omega) (by omega)) (by omega) (Nat.zero_le _) (Nat.zero_le _) rfl (Nat.le_of_ble_eq_true rfl) rfl (Nat.le_of_ble_eq_true rfl) rfl (fun xx4 hh5 hphh5 => ?_)
    obtain ⟨qq6, y48⟩ := hphh5
    rw [qq6]
    have yr48 := y48.r
    refine r_zret rfl (by omega) (dk_at dkX6_isValue 13 rfl) ?_
    refine ⟨rfl, ?_⟩
    rcases y48 with ⟨z1, z2⟩ | ⟨z1, z2⟩
    · refine Or.inl ⟨z1, ⟨by omega, by omega⟩, ?_⟩
      unfold rowLo rowHi
      first | (rw [q1]; exact ⟨z2.1, z2.2⟩) | (rw [show w = 4 by omega]; exact ⟨z2.1, z2.2⟩)
    · refine Or.inr ⟨z1, fun z => z2 ?_⟩
      have z3 := z.2
      unfold rowLo rowHi at z3
      first | (rw [q1] at z3; exact ⟨z3.1, z3.2⟩) | (rw [show w = 4 by omega] at z3; exact ⟨z3.1, z3.2⟩)
  · refine q_tableIn (tgt := 52) (dk_at dkX6_isValue 1 rfl) (by omega) (by omega) (by omega) (by rw [q1]; rfl) rfl ?_
    refine q_iload_n (pc' := 53) (dk_at dkX6_isValue 14 rfl) rfl rfl ?_
    refine q_i2l (pc' := 54) (dk_at dkX6_isValue 15 rfl) (by omega) rfl ?_
    refine q_lconst0 (pc' := 55) (dk_at dkX6_isValue 16 rfl) rfl ?_
    refine q_ldc2 (pc' := 58) (z := 300) kc_RX6_81 (by decide +kernel) (dk_at dkX6_isValue 17 rfl) rfl ?_
    refine r_cSI (pc' := 61) (As := [vJ v, vJ 0, vJ 300]) (S := []) cs_RX6_73 (dk_at dkX6_isValue 18 rfl) (k_M_in (d := 0) (by omega) (by omega) (by omega)) (by omega) (Nat.zero_le _) (Nat.zero_le _) rfl (Nat.le_of_ble_eq_true rfl) rfl (Nat.le_of_ble_eq_true rfl) rfl (fun xx7 hh8 hphh8 => ?_)
    obtain ⟨qq9, y58⟩ := hphh8
    rw [qq9]
    have yr58 := y58.r
    refine r_zret rfl (by omega) (dk_at dkX6_isValue 19 rfl) ?_
    refine ⟨rfl, ?_⟩
    rcases y58 with ⟨z1, z2⟩ | ⟨z1, z2⟩
    · refine Or.inl ⟨z1, ⟨by omega, by omega⟩, ?_⟩
      unfold rowLo rowHi
      first | (rw [q1]; exact ⟨z2.1, z2.2⟩) | (rw [show w = 4 by omega]; exact ⟨z2.1, z2.2⟩)
    · refine Or.inr ⟨z1, fun z => z2 ?_⟩
      have z3 := z.2
      unfold rowLo rowHi at z3
      first | (rw [q1] at z3; exact ⟨z3.1, z3.2⟩) | (rw [show w = 4 by omega] at z3; exact ⟨z3.1, z3.2⟩)
  · refine q_tableIn (tgt := 62) (dk_at dkX6_isValue 1 rfl) (by omega) (by omega) (by omega) (by rw [q1]; rfl) rfl ?_
    refine q_iload_n (pc' := 63) (dk_at dkX6_isValue 20 rfl) rfl rfl ?_
    refine q_i2l (pc' := 64) (dk_at dkX6_isValue 21 rfl) (by omega) rfl ?_
    refine q_lconst0 (pc' := 65) (dk_at dkX6_isValue 22 rfl) rfl ?_
    refine q_ldc2 (pc' := 68) (z := 500) kc_RX6_83 (by decide +kernel) (dk_at dkX6_isValue 23 rfl) rfl ?_
    refine r_cSI (pc' := 71) (As := [vJ v, vJ 0, vJ 500]) (S := []) cs_RX6_73 (dk_at dkX6_isValue 24 rfl) (k_M_in (d := 0) (by omega) (by omega) (by omega)) (by omega) (Nat.zero_le _) (Nat.zero_le _) rfl (Nat.le_of_ble_eq_true rfl) rfl (Nat.le_of_ble_eq_true rfl) rfl (fun xx10 hh11 hphh11 => ?_)
    obtain ⟨qq12, y68⟩ := hphh11
    rw [qq12]
    have yr68 := y68.r
    refine r_zret rfl (by omega) (dk_at dkX6_isValue 25 rfl) ?_
    refine ⟨rfl, ?_⟩
    rcases y68 with ⟨z1, z2⟩ | ⟨z1, z2⟩
    · refine Or.inl ⟨z1, ⟨by omega, by omega⟩, ?_⟩
      unfold rowLo rowHi
      first | (rw [q1]; exact ⟨z2.1, z2.2⟩) | (rw [show w = 4 by omega]; exact ⟨z2.1, z2.2⟩)
    · refine Or.inr ⟨z1, fun z => z2 ?_⟩
      have z3 := z.2
      unfold rowLo rowHi at z3
      first | (rw [q1] at z3; exact ⟨z3.1, z3.2⟩) | (rw [show w = 4 by omega] at z3; exact ⟨z3.1, z3.2⟩)
  · refine q_tableOut (tgt := 72) (dk_at dkX6_isValue 1 rfl) (by omega) (by omega) rfl ?_
    refine q_iload_n (pc' := 73) (dk_at dkX6_isValue 26 rfl) rfl rfl ?_
    refine q_i2l (pc' := 74) (dk_at dkX6_isValue 27 rfl) (by omega) rfl ?_
    refine q_lconst1 (pc' := 75) (dk_at dkX6_isValue 28 rfl) rfl ?_
    refine q_ldc2 (pc' := 78) (z := 9) kc_RX6_85 (by decide +kernel) (dk_at dkX6_isValue 29 rfl) rfl ?_
    refine r_cSI (pc' := 81) (As := [vJ v, vJ 1, vJ 9]) (S := []) cs_RX6_73 (dk_at dkX6_isValue 30 rfl) (k_M_in (d := 0) (by omega) (by omega) (by omega)) (by omega) (Nat.zero_le _) (Nat.zero_le _) rfl (Nat.le_of_ble_eq_true rfl) rfl (Nat.le_of_ble_eq_true rfl) rfl (fun xx13 hh14 hphh14 => ?_)
    obtain ⟨qq15, y78⟩ := hphh14
    rw [qq15]
    have yr78 := y78.r
    refine r_zret rfl (by omega) (dk_at dkX6_isValue 31 rfl) ?_
    refine ⟨rfl, ?_⟩
    rcases y78 with ⟨z1, z2⟩ | ⟨z1, z2⟩
    · refine Or.inl ⟨z1, ⟨by omega, by omega⟩, ?_⟩
      unfold rowLo rowHi
      first | (rw [q1]; exact ⟨z2.1, z2.2⟩) | (rw [show w = 4 by omega]; exact ⟨z2.1, z2.2⟩)
    · refine Or.inr ⟨z1, fun z => z2 ?_⟩
      have z3 := z.2
      unfold rowLo rowHi at z3
      first | (rw [q1] at z3; exact ⟨z3.1, z3.2⟩) | (rw [show w = 4 by omega] at z3; exact ⟨z3.1, z3.2⟩)

set_option maxHeartbeats 4000000 in
set_option maxRecDepth 100000 in
theorem k_M_thrown {d n : Nat} {h : PH} {m : Nat} {A sd sq op ss es bo su se tx ba le fr un sF sR sT ad : Nat → Int} {sm th l0 bm tl nf ne nc : Int}   (hM : isModel n h m A sd sm th sq op l0 ss es bo su se bm tx tl ba le fr un nf ne nc sF sR sT ad) : CtrI mX6_thrown d [vR m] n h (fun x h' => h' = h ∧ x = th) := by
  refine q_beginI (L := [some (vR m)]) rfl ?_
  refine q_aload_n (pc' := 1) (dk_at dkX6_thrown 0 rfl) rfl rfl ?_
  refine r_getf (pc' := 4) fl_RX6_66 (dk_at dkX6_thrown 1 rfl) hM.obj rfl rfl ?_
  refine r_iret rfl (dk_at dkX6_thrown 2 rfl) ?_
  exact ⟨rfl, rfl⟩

set_option maxHeartbeats 4000000 in
set_option maxRecDepth 100000 in
theorem k_M_goes {d n : Nat} {h : PH} {m : Nat} {A sd sq op ss es bo su se tx ba le fr un sF sR sT ad : Nat → Int} {sm th l0 bm tl nf ne nc : Int} {f1 f2 : Int} (h1 : f1 = 0 ∨ f1 = 1) (h2 : f2 = 0 ∨ f2 = 1) (hM : isModel n h m A sd sm th sq op l0 ss es bo su se bm tx tl ba le fr un nf ne nc sF sR sT ad) : CtrI mX6_goes d [vR m, vI f1, vI f2] n h (fun x h' => YN x (f1 = 1 ∧ f2 = 1) ∧ isModel n h' m A sd sm (if f1 = 0 then 1 else if f2 = 0 then 2 else 0) sq op l0 ss es bo su se bm tx tl ba le fr un nf ne nc sF sR sT ad ∧ Fr h h' m (m + 19)) := by
  have hF : Fr h h m (m + 19) := Fr.rf
  refine q_beginI (L := [some (vR m), some (vI f1), some (vI f2)]) rfl ?_
  refine q_aload_n (pc' := 1) (dk_at dkX6_goes 0 rfl) rfl rfl ?_
  refine q_iload_n (pc' := 2) (dk_at dkX6_goes 1 rfl) rfl rfl ?_
  refine q_if_ne (tgt := 9) (pc' := 5) (dk_at dkX6_goes 2 rfl) rfl rfl (by omega) (fun c2 => ?_) (fun c2 => ?_)
  · refine q_iload_n (pc' := 10) (dk_at dkX6_goes 5 rfl) rfl rfl ?_
    refine q_if_ne (tgt := 17) (pc' := 13) (dk_at dkX6_goes 6 rfl) rfl rfl (by omega) (fun c10 => ?_) (fun c10 => ?_)
    · refine q_iconst (pc' := 18) (dk_at dkX6_goes 9 rfl) rfl ?_
      refine r_putf (pc' := 21) fp_RX6_66 (dk_at dkX6_goes 10 rfl) hM.obj (Nat.le_of_ble_eq_true rfl) (PT_int _) rfl (fun hh1 ehh1 => ?_)
      have hM := hM.w_obj ehh1
      have hF := hF.put ehh1 (by omega)
      refine q_aload_n (pc' := 22) (dk_at dkX6_goes 11 rfl) rfl rfl ?_
      refine r_getf (pc' := 25) fl_RX6_66 (dk_at dkX6_goes 12 rfl) hM.obj rfl rfl ?_
      refine q_if_ne (tgt := 32) (pc' := 28) (dk_at dkX6_goes 13 rfl) rfl rfl (by omega) (fun c25 => ?_) (fun c25 => ?_)
      · refine q_iconst (pc' := 33) (dk_at dkX6_goes 16 rfl) rfl ?_
        refine r_zret rfl (by omega) (dk_at dkX6_goes 17 rfl) ?_
        refine ⟨?_, ?_, hF⟩
        · first | exact Or.inl ⟨rfl, by omega, by omega⟩ | exact Or.inr ⟨rfl, by omega⟩
        · first | (rw [if_pos (by omega)]; exact hM) | (rw [if_neg (by omega), if_pos (by omega)]; exact hM) | (rw [if_neg (by omega), if_neg (by omega)]; exact hM)
      · refine q_iconst (pc' := 29) (dk_at dkX6_goes 14 rfl) rfl ?_
        refine q_goto (tgt := 33) (dk_at dkX6_goes 15 rfl) rfl ?_
        refine r_zret rfl (by omega) (dk_at dkX6_goes 17 rfl) ?_
        refine ⟨?_, ?_, hF⟩
        · first | exact Or.inl ⟨rfl, by omega, by omega⟩ | exact Or.inr ⟨rfl, by omega⟩
        · first | (rw [if_pos (by omega)]; exact hM) | (rw [if_neg (by omega), if_pos (by omega)]; exact hM) | (rw [if_neg (by omega), if_neg (by omega)]; exact hM)
    · refine q_iconst (pc' := 14) (dk_at dkX6_goes 7 rfl) rfl ?_
      refine q_goto (tgt := 18) (dk_at dkX6_goes 8 rfl) rfl ?_
      refine r_putf (pc' := 21) fp_RX6_66 (dk_at dkX6_goes 10 rfl) hM.obj (Nat.le_of_ble_eq_true rfl) (PT_int _) rfl (fun hh2 ehh2 => ?_)
      have hM := hM.w_obj ehh2
      have hF := hF.put ehh2 (by omega)
      refine q_aload_n (pc' := 22) (dk_at dkX6_goes 11 rfl) rfl rfl ?_
      refine r_getf (pc' := 25) fl_RX6_66 (dk_at dkX6_goes 12 rfl) hM.obj rfl rfl ?_
      refine q_if_ne (tgt := 32) (pc' := 28) (dk_at dkX6_goes 13 rfl) rfl rfl (by omega) (fun c25 => ?_) (fun c25 => ?_)
      · refine q_iconst (pc' := 33) (dk_at dkX6_goes 16 rfl) rfl ?_
        refine r_zret rfl (by omega) (dk_at dkX6_goes 17 rfl) ?_
        refine ⟨?_, ?_, hF⟩
        · first | exact Or.inl ⟨rfl, by omega, by omega⟩ | exact Or.inr ⟨rfl, by omega⟩
        · first | (rw [if_pos (by omega)]; exact hM) | (rw [if_neg (by omega), if_pos (by omega)]; exact hM) | (rw [if_neg (by omega), if_neg (by omega)]; exact hM)
      · refine q_iconst (pc' := 29) (dk_at dkX6_goes 14 rfl) rfl ?_
        refine q_goto (tgt := 33) (dk_at dkX6_goes 15 rfl) rfl ?_
        refine r_zret rfl (by omega) (dk_at dkX6_goes 17 rfl) ?_
        refine ⟨?_, ?_, hF⟩
        · first | exact Or.inl ⟨rfl, by omega, by omega⟩ | exact Or.inr ⟨rfl, by omega⟩
        · first | (rw [if_pos (by omega)]; exact hM) | (rw [if_neg (by omega), if_pos (by omega)]; exact hM) | (rw [if_neg (by omega), if_neg (by omega)]; exact hM)
  · refine q_iconst (pc' := 6) (dk_at dkX6_goes 3 rfl) rfl ?_
    refine q_goto (tgt := 18) (dk_at dkX6_goes 4 rfl) rfl ?_
    refine r_putf (pc' := 21) fp_RX6_66 (dk_at dkX6_goes 10 rfl) hM.obj (Nat.le_of_ble_eq_true rfl) (PT_int _) rfl (fun hh3 ehh3 => ?_)
    have hM := hM.w_obj ehh3
    have hF := hF.put ehh3 (by omega)
    refine q_aload_n (pc' := 22) (dk_at dkX6_goes 11 rfl) rfl rfl ?_
    refine r_getf (pc' := 25) fl_RX6_66 (dk_at dkX6_goes 12 rfl) hM.obj rfl rfl ?_
    refine q_if_ne (tgt := 32) (pc' := 28) (dk_at dkX6_goes 13 rfl) rfl rfl (by omega) (fun c25 => ?_) (fun c25 => ?_)
    · refine q_iconst (pc' := 33) (dk_at dkX6_goes 16 rfl) rfl ?_
      refine r_zret rfl (by omega) (dk_at dkX6_goes 17 rfl) ?_
      refine ⟨?_, ?_, hF⟩
      · first | exact Or.inl ⟨rfl, by omega, by omega⟩ | exact Or.inr ⟨rfl, by omega⟩
      · first | (rw [if_pos (by omega)]; exact hM) | (rw [if_neg (by omega), if_pos (by omega)]; exact hM) | (rw [if_neg (by omega), if_neg (by omega)]; exact hM)
    · refine q_iconst (pc' := 29) (dk_at dkX6_goes 14 rfl) rfl ?_
      refine q_goto (tgt := 33) (dk_at dkX6_goes 15 rfl) rfl ?_
      refine r_zret rfl (by omega) (dk_at dkX6_goes 17 rfl) ?_
      refine ⟨?_, ?_, hF⟩
      · first | exact Or.inl ⟨rfl, by omega, by omega⟩ | exact Or.inr ⟨rfl, by omega⟩
      · first | (rw [if_pos (by omega)]; exact hM) | (rw [if_neg (by omega), if_pos (by omega)]; exact hM) | (rw [if_neg (by omega), if_neg (by omega)]; exact hM)

set_option maxHeartbeats 4000000 in
set_option maxRecDepth 100000 in
theorem k_M_of {d n : Nat} {h : PH} {m : Nat} {A sd sq op ss es bo su se tx ba le fr un sF sR sT ad : Nat → Int} {sm th l0 bm tl nf ne nc : Int} {S : Shp} {j w : Nat} {xj xw : Int} (hR : MR A S) (hc8 : S.cnt ≤ 8) (ej : xj = (j : Int)) (ew : xw = (w : Int)) (hj : j < S.cnt) (hw : w < 5) (hM : isModel n h m A sd sm th sq op l0 ss es bo su se bm tx tl ba le fr un nf ne nc sF sR sT ad) : CtrI mX6_of d [vR m, vI xj, vI xw] n h (fun x h' => h' = h ∧ x = S.V w j) := by
  refine q_beginI (L := [some (vR m), some (vI xj), some (vI xw)]) rfl ?_
  refine q_aload_n (pc' := 1) (dk_at dkX6_of 0 rfl) rfl rfl ?_
  refine r_getf (pc' := 4) fl_RX6_7 (dk_at dkX6_of 1 rfl) hM.obj rfl rfl ?_
  refine q_iconst (pc' := 5) (dk_at dkX6_of 2 rfl) rfl ?_
  refine q_iconst (pc' := 6) (dk_at dkX6_of 3 rfl) rfl ?_
  refine q_iload_n (pc' := 7) (dk_at dkX6_of 4 rfl) rfl rfl ?_
  refine q_imul (pc' := 8) (dk_at dkX6_of 5 rfl) rfl ?_
  refine q_iadd (pc' := 9) (dk_at dkX6_of 6 rfl) rfl ?_
  refine q_iload_n (pc' := 10) (dk_at dkX6_of 7 rfl) rfl rfl ?_
  refine q_iadd (pc' := 11) (dk_at dkX6_of 8 rfl) rfl ?_
  refine r_iald (pc' := 12) (dk_at dkX6_of 9 rfl) hM.all (1 + 5 * j + w) (by omega) (by omega) (by decide) rfl ?_
  refine r_iret rfl (dk_at dkX6_of 10 rfl) ?_
  exact ⟨rfl, hR.v hw hj⟩

set_option maxHeartbeats 4000000 in
set_option maxRecDepth 100000 in
theorem k_M_isJob {d n : Nat} {h : PH} {m : Nat} {A sd sq op ss es bo su se tx ba le fr un sF sR sT ad : Nat → Int} {sm th l0 bm tl nf ne nc : Int} {S : Shp} {j : Int} (hd : 1 ≤ d) (hR : MR A S) (hc8 : S.cnt ≤ 8) (hj : IR j) (hM : isModel n h m A sd sm th sq op l0 ss es bo su se bm tx tl ba le fr un nf ne nc sF sR sT ad) : CtrI mX6_isJob d [vR m, vI j] n h (fun x h' => h' = h ∧ YN x (jOk S j)) := by
  have hA0 := hR.c
  refine q_beginI (L := [some (vR m), some (vI j)]) rfl ?_
  refine q_iload_n (pc' := 1) (dk_at dkX6_isJob 0 rfl) rfl rfl ?_
  refine q_i2l (pc' := 2) (dk_at dkX6_isJob 1 rfl) (by omega) rfl ?_
  refine q_lconst0 (pc' := 3) (dk_at dkX6_isJob 2 rfl) rfl ?_
  refine q_aload_n (pc' := 4) (dk_at dkX6_isJob 3 rfl) rfl rfl ?_
  refine r_getf (pc' := 7) fl_RX6_7 (dk_at dkX6_isJob 4 rfl) hM.obj rfl rfl ?_
  refine q_iconst (pc' := 8) (dk_at dkX6_isJob 5 rfl) rfl ?_
  refine r_iald (pc' := 9) (dk_at dkX6_isJob 6 rfl) hM.all 0 (by omega) (by omega) (by decide) rfl ?_
  refine q_iconst (pc' := 10) (dk_at dkX6_isJob 7 rfl) rfl ?_
  refine q_isub (pc' := 11) (dk_at dkX6_isJob 8 rfl) rfl ?_
  refine q_i2l (pc' := 12) (dk_at dkX6_isJob 9 rfl) (by omega) rfl ?_
  refine r_cSI (pc' := 15) (As := [vJ j, vJ 0, vJ ((A 0) - 1)]) (S := []) cs_RX6_73 (dk_at dkX6_isJob 10 rfl) (k_M_in (d := 0) (by omega) (by omega) (by omega)) (by omega) (Nat.zero_le _) (Nat.zero_le _) rfl (Nat.le_of_ble_eq_true rfl) rfl (Nat.le_of_ble_eq_true rfl) rfl (fun xx1 hh2 hphh2 => ?_)
  obtain ⟨qq3, y12⟩ := hphh2
  rw [qq3]
  have yr12 := y12.r
  refine r_zret rfl (by omega) (dk_at dkX6_isJob 11 rfl) ?_
  refine ⟨rfl, ?_⟩
  unfold jOk
  rcases y12 with ⟨z1, z2⟩ | ⟨z1, z2⟩
  · exact Or.inl ⟨z1, by omega, by omega⟩
  · exact Or.inr ⟨z1, by omega⟩

set_option maxHeartbeats 4000000 in
set_option maxRecDepth 100000 in
theorem k_M_isSum {d n : Nat} {h : PH} {m : Nat} {A sd sq op ss es bo su se tx ba le fr un sF sR sT ad : Nat → Int} {sm th l0 bm tl nf ne nc : Int} {S : Shp} (hR : MR A S) (hk : Sok S) (hM : isModel n h m A sd sm th sq op l0 ss es bo su se bm tx tl ba le fr un nf ne nc sF sR sT ad) : CtrI mX6_isSum d [vR m] n h (fun x h' => h' = h ∧ YN x (S.ob < 4)) := by
  have hA := hR.o
  have ho := hk.o
  refine q_beginI (L := [some (vR m)]) rfl ?_
  refine q_aload_n (pc' := 1) (dk_at dkX6_isSum 0 rfl) rfl rfl ?_
  refine r_getf (pc' := 4) fl_RX6_7 (dk_at dkX6_isSum 1 rfl) hM.obj rfl rfl ?_
  refine q_bipush (pc' := 6) (dk_at dkX6_isSum 2 rfl) (by decide +kernel) rfl ?_
  refine r_iald (pc' := 7) (dk_at dkX6_isSum 3 rfl) hM.all 63 (by omega) (by omega) (by decide) rfl ?_
  refine q_iconst (pc' := 8) (dk_at dkX6_isSum 4 rfl) rfl ?_
  refine q_icmp_ge (tgt := 15) (pc' := 11) (dk_at dkX6_isSum 5 rfl) rfl rfl (by omega) (by omega) (fun c8 => ?_) (fun c8 => ?_)
  · refine q_iconst (pc' := 16) (dk_at dkX6_isSum 8 rfl) rfl ?_
    refine r_zret rfl (by omega) (dk_at dkX6_isSum 9 rfl) ?_
    first | exact ⟨rfl, Or.inl ⟨rfl, by omega⟩⟩ | exact ⟨rfl, Or.inr ⟨rfl, by omega⟩⟩
  · refine q_iconst (pc' := 12) (dk_at dkX6_isSum 6 rfl) rfl ?_
    refine q_goto (tgt := 16) (dk_at dkX6_isSum 7 rfl) rfl ?_
    refine r_zret rfl (by omega) (dk_at dkX6_isSum 9 rfl) ?_
    first | exact ⟨rfl, Or.inl ⟨rfl, by omega⟩⟩ | exact ⟨rfl, Or.inr ⟨rfl, by omega⟩⟩

/-- the model's neutral cost -/
def neuM (S : Shp) : Int := if 4 ≤ S.ob then -1000000 else 0
set_option maxHeartbeats 4000000 in
set_option maxRecDepth 100000 in
theorem k_M_costOfNothing {d n : Nat} {h : PH} {m : Nat} {A sd sq op ss es bo su se tx ba le fr un sF sR sT ad : Nat → Int} {sm th l0 bm tl nf ne nc : Int} {S : Shp} (hd : 1 ≤ d) (hR : MR A S) (hk : Sok S) (hM : isModel n h m A sd sm th sq op l0 ss es bo su se bm tx tl ba le fr un nf ne nc sF sR sT ad) : CtrI mX6_costOfNothing d [vR m] n h (fun x h' => h' = h ∧ x = neuM S) := by
  refine q_beginI (L := [some (vR m)]) rfl ?_
  refine q_aload_n (pc' := 1) (dk_at dkX6_costOfNothing 0 rfl) rfl rfl ?_
  refine r_cVI (pc' := 4) (As := []) (S := []) cv_RX6_114 (dk_at dkX6_costOfNothing 1 rfl) hM.obj rfl (k_M_isSum (d := 0) hR hk hM) (by omega) (Nat.zero_le _) (Nat.zero_le _) rfl (Nat.le_of_ble_eq_true rfl) rfl (Nat.le_of_ble_eq_true rfl) rfl (fun xx1 hh2 hphh2 => ?_)
  obtain ⟨qq3, y1⟩ := hphh2
  rw [qq3]
  have yr1 := y1.r
  refine q_if_eq (tgt := 11) (pc' := 7) (dk_at dkX6_costOfNothing 2 rfl) rfl rfl (by omega) (fun c4 => ?_) (fun c4 => ?_)
  · refine q_ldc (pc' := 13) (z := -1000000) kc_RX6_118 (by decide +kernel) (dk_at dkX6_costOfNothing 5 rfl) rfl ?_
    refine r_iret rfl (dk_at dkX6_costOfNothing 6 rfl) ?_
    refine ⟨rfl, ?_⟩
    unfold neuM
    have := y1.f c4
    rw [if_pos (by omega)]
  · refine q_iconst (pc' := 8) (dk_at dkX6_costOfNothing 3 rfl) rfl ?_
    refine q_goto (tgt := 13) (dk_at dkX6_costOfNothing 4 rfl) rfl ?_
    refine r_iret rfl (dk_at dkX6_costOfNothing 6 rfl) ?_
    refine ⟨rfl, ?_⟩
    unfold neuM
    have := y1.t c4
    rw [if_neg (by omega)]

set_option maxHeartbeats 4000000 in
set_option maxRecDepth 100000 in
theorem k_M_with {d n : Nat} {h : PH} {m : Nat} {A sd sq op ss es bo su se tx ba le fr un sF sR sT ad : Nat → Int} {sm th l0 bm tl nf ne nc : Int} {S : Shp} {a b : Int} (hd : 1 ≤ d) (hR : MR A S) (hk : Sok S) (ha : IR a) (hb : IR b) (hM : isModel n h m A sd sm th sq op l0 ss es bo su se bm tx tl ba le fr un nf ne nc sF sR sT ad) : CtrI mX6_with d [vR m, vI a, vI b] n h (fun x h' => h' = h ∧ x = jn S a b) := by
  refine q_beginI (L := [some (vR m), some (vI a), some (vI b)]) rfl ?_
  refine q_aload_n (pc' := 1) (dk_at dkX6_with 0 rfl) rfl rfl ?_
  refine r_cVI (pc' := 4) (As := []) (S := []) cv_RX6_114 (dk_at dkX6_with 1 rfl) hM.obj rfl (k_M_isSum (d := 0) hR hk hM) (by omega) (Nat.zero_le _) (Nat.zero_le _) rfl (Nat.le_of_ble_eq_true rfl) rfl (Nat.le_of_ble_eq_true rfl) rfl (fun xx1 hh2 hphh2 => ?_)
  obtain ⟨qq3, y1⟩ := hphh2
  rw [qq3]
  have yr1 := y1.r
  refine q_if_eq (tgt := 13) (pc' := 7) (dk_at dkX6_with 2 rfl) rfl rfl (by omega) (fun c4 => ?_) (fun c4 => ?_)
  · refine q_iload_n (pc' := 14) (dk_at dkX6_with 7 rfl) rfl rfl ?_
    refine q_iload_n (pc' := 15) (dk_at dkX6_with 8 rfl) rfl rfl ?_
    refine q_icmp_le (tgt := 22) (pc' := 18) (dk_at dkX6_with 9 rfl) rfl rfl (by omega) (by omega) (fun c15 => ?_) (fun c15 => ?_)
    · refine q_iload_n (pc' := 23) (dk_at dkX6_with 12 rfl) rfl rfl ?_
      refine r_iret rfl (dk_at dkX6_with 13 rfl) ?_
      refine ⟨rfl, ?_⟩
      have := y1.f c4
      unfold jn
      rw [if_pos (by omega)]
      omega
    · refine q_iload_n (pc' := 19) (dk_at dkX6_with 10 rfl) rfl rfl ?_
      refine q_goto (tgt := 23) (dk_at dkX6_with 11 rfl) rfl ?_
      refine r_iret rfl (dk_at dkX6_with 13 rfl) ?_
      refine ⟨rfl, ?_⟩
      have := y1.f c4
      unfold jn
      rw [if_pos (by omega)]
      omega
  · refine q_iload_n (pc' := 8) (dk_at dkX6_with 3 rfl) rfl rfl ?_
    refine q_iload_n (pc' := 9) (dk_at dkX6_with 4 rfl) rfl rfl ?_
    refine q_iadd (pc' := 10) (dk_at dkX6_with 5 rfl) rfl ?_
    refine q_goto (tgt := 23) (dk_at dkX6_with 6 rfl) rfl ?_
    refine r_iret rfl (dk_at dkX6_with 13 rfl) ?_
    refine ⟨rfl, ?_⟩
    have := y1.t c4
    unfold jn
    rw [if_neg (by omega)]

set_option maxHeartbeats 4000000 in
set_option maxRecDepth 100000 in
theorem k_M_costOf {d n : Nat} {h : PH} {m : Nat} {A sd sq op ss es bo su se tx ba le fr un sF sR sT ad : Nat → Int} {sm th l0 bm tl nf ne nc : Int} {S : Shp} {j : Nat} {xj C : Int} (hd : 1 ≤ d) (hR : MR A S) (hk : Sok S) (ej : xj = (j : Int)) (hj : j < S.cnt) (hC : 0 ≤ C ∧ C ≤ 6000) (hM : isModel n h m A sd sm th sq op l0 ss es bo su se bm tx tl ba le fr un nf ne nc sF sR sT ad) : CtrI mX6_costOf d [vR m, vI xj, vI C] n h (fun x h' => h' = h ∧ x = pen S j C) := by
  have hA := hR.o
  have ho := hk.o
  have hv3 := hk.v 3 j
  have hv4 := hk.v 4 j
  refine q_beginI (L := [some (vR m), some (vI xj), some (vI C), none, none, none]) rfl ?_
  refine q_iload_n (pc' := 1) (dk_at dkX6_costOf 0 rfl) rfl rfl ?_
  refine q_aload_n (pc' := 2) (dk_at dkX6_costOf 1 rfl) rfl rfl ?_
  refine q_iload_n (pc' := 3) (dk_at dkX6_costOf 2 rfl) rfl rfl ?_
  refine q_iconst (pc' := 4) (dk_at dkX6_costOf 3 rfl) rfl ?_
  refine r_cVI (pc' := 7) (As := [vI xj, vI 3]) (S := [vI C]) cv_RX6_104 (dk_at dkX6_costOf 4 rfl) hM.obj rfl (k_M_of (d := 0) (j := j) (w := 3) hR hk.c ej rfl hj (by omega) hM) (by omega) (Nat.zero_le _) (Nat.zero_le _) rfl (Nat.le_of_ble_eq_true rfl) rfl (Nat.le_of_ble_eq_true rfl) rfl (fun xx1 hh2 hphh2 => ?_)
  obtain ⟨qq3, rfl⟩ := hphh2
  rw [qq3]
  refine q_isub (pc' := 8) (dk_at dkX6_costOf 5 rfl) rfl ?_
  refine q_istore_n (pc' := 9) (L' := [some (vR m), some (vI xj), some (vI C), some (vI (C - (S.V 3 j))), none, none]) (dk_at dkX6_costOf 6 rfl) (by decide) rfl rfl ?_
  refine q_iload_n (pc' := 10) (dk_at dkX6_costOf 7 rfl) rfl rfl ?_
  refine q_if_le (tgt := 17) (pc' := 13) (dk_at dkX6_costOf 8 rfl) rfl rfl (by omega) (fun c10 => ?_) (fun c10 => ?_)
  · refine q_iconst (pc' := 18) (dk_at dkX6_costOf 11 rfl) rfl ?_
    refine q_istore (pc' := 20) (L' := [some (vR m), some (vI xj), some (vI C), some (vI (C - (S.V 3 j))), some (vI 0), none]) (dk_at dkX6_costOf 12 rfl) (by decide) rfl rfl ?_
    refine q_aload_n (pc' := 21) (dk_at dkX6_costOf 13 rfl) rfl rfl ?_
    refine q_iload_n (pc' := 22) (dk_at dkX6_costOf 14 rfl) rfl rfl ?_
    refine q_iconst (pc' := 23) (dk_at dkX6_costOf 15 rfl) rfl ?_
    refine r_cVI (pc' := 26) (As := [vI xj, vI 4]) (S := []) cv_RX6_104 (dk_at dkX6_costOf 16 rfl) hM.obj rfl (k_M_of (d := 0) (j := j) (w := 4) hR hk.c ej rfl hj (by omega) hM) (by omega) (Nat.zero_le _) (Nat.zero_le _) rfl (Nat.le_of_ble_eq_true rfl) rfl (Nat.le_of_ble_eq_true rfl) rfl (fun xx4 hh5 hphh5 => ?_)
    obtain ⟨qq6, rfl⟩ := hphh5
    rw [qq6]
    refine q_istore (pc' := 28) (L' := [some (vR m), some (vI xj), some (vI C), some (vI (C - (S.V 3 j))), some (vI 0), some (vI (S.V 4 j))]) (dk_at dkX6_costOf 17 rfl) (by decide) rfl rfl ?_
    refine q_aload_n (pc' := 29) (dk_at dkX6_costOf 18 rfl) rfl rfl ?_
    refine r_getf (pc' := 32) fl_RX6_7 (dk_at dkX6_costOf 19 rfl) hM.obj rfl rfl ?_
    refine q_bipush (pc' := 34) (dk_at dkX6_costOf 20 rfl) (by decide +kernel) rfl ?_
    refine r_iald (pc' := 35) (dk_at dkX6_costOf 21 rfl) hM.all 63 (by omega) (by omega) (by decide) rfl ?_
    rcases (show (A 63) = 0 ∨ (A 63) = 1 ∨ (A 63) = 2 ∨ (A 63) = 3 ∨ (A 63) = 4 ∨ ((A 63) < 0 ∨ 4 < (A 63)) by omega) with q35 | q35 | q35 | q35 | q35 | q35
    · refine q_tableIn (tgt := 68) (dk_at dkX6_costOf 22 rfl) (by omega) (by omega) (by omega) (by rw [q35]; rfl) rfl ?_
      refine q_iload (pc' := 70) (dk_at dkX6_costOf 23 rfl) rfl rfl ?_
      refine q_iload_n (pc' := 71) (dk_at dkX6_costOf 24 rfl) rfl rfl ?_
      refine q_imul (pc' := 72) (dk_at dkX6_costOf 25 rfl) rfl ?_
      refine r_iret rfl (dk_at dkX6_costOf 26 rfl) ?_
      refine ⟨rfl, ?_⟩
      unfold pen penz
      first | (exfalso; omega; done) | (rw [if_neg (by omega), if_neg (by omega), if_neg (by omega), if_pos (by omega)]; done) | (rw [if_neg (by omega), if_neg (by omega), if_pos (by omega)]; done) | (rw [if_pos (by omega)]; done) | (rw [if_neg (by omega), if_pos (by omega)]; done) | (rw [if_neg (by omega), if_neg (by omega), if_neg (by omega), if_neg (by omega), if_pos (by omega)]; done) | (rw [if_neg (by omega), if_neg (by omega), if_neg (by omega), if_pos (by omega)]; omega; done) | (rw [if_neg (by omega), if_neg (by omega), if_neg (by omega), if_pos (by omega)]; simp; done) | (rw [if_neg (by omega), if_neg (by omega), if_neg (by omega), if_neg (by omega), if_neg (by omega), if_pos (by omega)]; done) | (rw [if_neg (by omega), if_neg (by omega), if_neg (by omega), if_neg (by omega), if_neg (by omega), if_neg (by omega)]; done)
    · refine q_tableIn (tgt := 73) (dk_at dkX6_costOf 22 rfl) (by omega) (by omega) (by omega) (by rw [q35]; rfl) rfl ?_
      refine q_iload (pc' := 75) (dk_at dkX6_costOf 27 rfl) rfl rfl ?_
      refine q_iload (pc' := 77) (dk_at dkX6_costOf 28 rfl) rfl rfl ?_
      refine q_imul (pc' := 78) (dk_at dkX6_costOf 29 rfl) rfl ?_
      refine r_iret rfl (dk_at dkX6_costOf 30 rfl) ?_
      refine ⟨rfl, ?_⟩
      unfold pen penz
      first | (exfalso; omega; done) | (rw [if_neg (by omega), if_neg (by omega), if_neg (by omega), if_pos (by omega)]; done) | (rw [if_neg (by omega), if_neg (by omega), if_pos (by omega)]; done) | (rw [if_pos (by omega)]; done) | (rw [if_neg (by omega), if_pos (by omega)]; done) | (rw [if_neg (by omega), if_neg (by omega), if_neg (by omega), if_neg (by omega), if_pos (by omega)]; done) | (rw [if_neg (by omega), if_neg (by omega), if_neg (by omega), if_pos (by omega)]; omega; done) | (rw [if_neg (by omega), if_neg (by omega), if_neg (by omega), if_pos (by omega)]; simp; done) | (rw [if_neg (by omega), if_neg (by omega), if_neg (by omega), if_neg (by omega), if_neg (by omega), if_pos (by omega)]; done) | (rw [if_neg (by omega), if_neg (by omega), if_neg (by omega), if_neg (by omega), if_neg (by omega), if_neg (by omega)]; done)
    · refine q_tableIn (tgt := 79) (dk_at dkX6_costOf 22 rfl) (by omega) (by omega) (by omega) (by rw [q35]; rfl) rfl ?_
      refine q_iload (pc' := 81) (dk_at dkX6_costOf 31 rfl) rfl rfl ?_
      refine q_iload (pc' := 83) (dk_at dkX6_costOf 32 rfl) rfl rfl ?_
      refine q_imul (pc' := 84) (dk_at dkX6_costOf 33 rfl) rfl ?_
      refine q_iload (pc' := 86) (dk_at dkX6_costOf 34 rfl) rfl rfl ?_
      refine q_imul (pc' := 87) (dk_at dkX6_costOf 35 rfl) rfl ?_
      refine r_iret rfl (dk_at dkX6_costOf 36 rfl) ?_
      refine ⟨rfl, ?_⟩
      unfold pen penz
      first | (exfalso; omega; done) | (rw [if_neg (by omega), if_neg (by omega), if_neg (by omega), if_pos (by omega)]; done) | (rw [if_neg (by omega), if_neg (by omega), if_pos (by omega)]; done) | (rw [if_pos (by omega)]; done) | (rw [if_neg (by omega), if_pos (by omega)]; done) | (rw [if_neg (by omega), if_neg (by omega), if_neg (by omega), if_neg (by omega), if_pos (by omega)]; done) | (rw [if_neg (by omega), if_neg (by omega), if_neg (by omega), if_pos (by omega)]; omega; done) | (rw [if_neg (by omega), if_neg (by omega), if_neg (by omega), if_pos (by omega)]; simp; done) | (rw [if_neg (by omega), if_neg (by omega), if_neg (by omega), if_neg (by omega), if_neg (by omega), if_pos (by omega)]; done) | (rw [if_neg (by omega), if_neg (by omega), if_neg (by omega), if_neg (by omega), if_neg (by omega), if_neg (by omega)]; done)
    · refine q_tableIn (tgt := 88) (dk_at dkX6_costOf 22 rfl) (by omega) (by omega) (by omega) (by rw [q35]; rfl) rfl ?_
      refine q_iload (pc' := 90) (dk_at dkX6_costOf 37 rfl) rfl rfl ?_
      refine q_if_le (tgt := 98) (pc' := 93) (dk_at dkX6_costOf 38 rfl) rfl rfl (by omega) (fun c90 => ?_) (fun c90 => ?_)
      · refine q_iconst (pc' := 99) (dk_at dkX6_costOf 41 rfl) rfl ?_
        refine r_iret rfl (dk_at dkX6_costOf 42 rfl) ?_
        refine ⟨rfl, ?_⟩
        unfold pen penz
        first | (exfalso; omega; done) | (rw [if_neg (by omega), if_neg (by omega), if_neg (by omega), if_pos (by omega)]; done) | (rw [if_neg (by omega), if_neg (by omega), if_pos (by omega)]; done) | (rw [if_pos (by omega)]; done) | (rw [if_neg (by omega), if_pos (by omega)]; done) | (rw [if_neg (by omega), if_neg (by omega), if_neg (by omega), if_neg (by omega), if_pos (by omega)]; done) | (rw [if_neg (by omega), if_neg (by omega), if_neg (by omega), if_pos (by omega)]; omega; done) | (rw [if_neg (by omega), if_neg (by omega), if_neg (by omega), if_pos (by omega)]; simp; done) | (rw [if_neg (by omega), if_neg (by omega), if_neg (by omega), if_neg (by omega), if_neg (by omega), if_pos (by omega)]; done) | (rw [if_neg (by omega), if_neg (by omega), if_neg (by omega), if_neg (by omega), if_neg (by omega), if_neg (by omega)]; done)
      · refine q_iload (pc' := 95) (dk_at dkX6_costOf 39 rfl) rfl rfl ?_
        refine q_goto (tgt := 99) (dk_at dkX6_costOf 40 rfl) rfl ?_
        refine r_iret rfl (dk_at dkX6_costOf 42 rfl) ?_
        refine ⟨rfl, ?_⟩
        unfold pen penz
        first | (exfalso; omega; done) | (rw [if_neg (by omega), if_neg (by omega), if_neg (by omega), if_pos (by omega)]; done) | (rw [if_neg (by omega), if_neg (by omega), if_pos (by omega)]; done) | (rw [if_pos (by omega)]; done) | (rw [if_neg (by omega), if_pos (by omega)]; done) | (rw [if_neg (by omega), if_neg (by omega), if_neg (by omega), if_neg (by omega), if_pos (by omega)]; done) | (rw [if_neg (by omega), if_neg (by omega), if_neg (by omega), if_pos (by omega)]; omega; done) | (rw [if_neg (by omega), if_neg (by omega), if_neg (by omega), if_pos (by omega)]; simp; done) | (rw [if_neg (by omega), if_neg (by omega), if_neg (by omega), if_neg (by omega), if_neg (by omega), if_pos (by omega)]; done) | (rw [if_neg (by omega), if_neg (by omega), if_neg (by omega), if_neg (by omega), if_neg (by omega), if_neg (by omega)]; done)
    · refine q_tableIn (tgt := 100) (dk_at dkX6_costOf 22 rfl) (by omega) (by omega) (by omega) (by rw [q35]; rfl) rfl ?_
      refine q_iload_n (pc' := 101) (dk_at dkX6_costOf 43 rfl) rfl rfl ?_
      refine r_iret rfl (dk_at dkX6_costOf 44 rfl) ?_
      refine ⟨rfl, ?_⟩
      unfold pen penz
      first | (exfalso; omega; done) | (rw [if_neg (by omega), if_neg (by omega), if_neg (by omega), if_pos (by omega)]; done) | (rw [if_neg (by omega), if_neg (by omega), if_pos (by omega)]; done) | (rw [if_pos (by omega)]; done) | (rw [if_neg (by omega), if_pos (by omega)]; done) | (rw [if_neg (by omega), if_neg (by omega), if_neg (by omega), if_neg (by omega), if_pos (by omega)]; done) | (rw [if_neg (by omega), if_neg (by omega), if_neg (by omega), if_pos (by omega)]; omega; done) | (rw [if_neg (by omega), if_neg (by omega), if_neg (by omega), if_pos (by omega)]; simp; done) | (rw [if_neg (by omega), if_neg (by omega), if_neg (by omega), if_neg (by omega), if_neg (by omega), if_pos (by omega)]; done) | (rw [if_neg (by omega), if_neg (by omega), if_neg (by omega), if_neg (by omega), if_neg (by omega), if_neg (by omega)]; done)
    · refine q_tableOut (tgt := 102) (dk_at dkX6_costOf 22 rfl) (by omega) (by omega) rfl ?_
      refine q_iload_n (pc' := 103) (dk_at dkX6_costOf 45 rfl) rfl rfl ?_
      refine r_iret rfl (dk_at dkX6_costOf 46 rfl) ?_
      refine ⟨rfl, ?_⟩
      unfold pen penz
      first | (exfalso; omega; done) | (rw [if_neg (by omega), if_neg (by omega), if_neg (by omega), if_pos (by omega)]; done) | (rw [if_neg (by omega), if_neg (by omega), if_pos (by omega)]; done) | (rw [if_pos (by omega)]; done) | (rw [if_neg (by omega), if_pos (by omega)]; done) | (rw [if_neg (by omega), if_neg (by omega), if_neg (by omega), if_neg (by omega), if_pos (by omega)]; done) | (rw [if_neg (by omega), if_neg (by omega), if_neg (by omega), if_pos (by omega)]; omega; done) | (rw [if_neg (by omega), if_neg (by omega), if_neg (by omega), if_pos (by omega)]; simp; done) | (rw [if_neg (by omega), if_neg (by omega), if_neg (by omega), if_neg (by omega), if_neg (by omega), if_pos (by omega)]; done) | (rw [if_neg (by omega), if_neg (by omega), if_neg (by omega), if_neg (by omega), if_neg (by omega), if_neg (by omega)]; done)
  · refine q_iload_n (pc' := 14) (dk_at dkX6_costOf 9 rfl) rfl rfl ?_
    refine q_goto (tgt := 18) (dk_at dkX6_costOf 10 rfl) rfl ?_
    refine q_istore (pc' := 20) (L' := [some (vR m), some (vI xj), some (vI C), some (vI (C - (S.V 3 j))), some (vI (C - (S.V 3 j))), none]) (dk_at dkX6_costOf 12 rfl) (by decide) rfl rfl ?_
    refine q_aload_n (pc' := 21) (dk_at dkX6_costOf 13 rfl) rfl rfl ?_
    refine q_iload_n (pc' := 22) (dk_at dkX6_costOf 14 rfl) rfl rfl ?_
    refine q_iconst (pc' := 23) (dk_at dkX6_costOf 15 rfl) rfl ?_
    refine r_cVI (pc' := 26) (As := [vI xj, vI 4]) (S := []) cv_RX6_104 (dk_at dkX6_costOf 16 rfl) hM.obj rfl (k_M_of (d := 0) (j := j) (w := 4) hR hk.c ej rfl hj (by omega) hM) (by omega) (Nat.zero_le _) (Nat.zero_le _) rfl (Nat.le_of_ble_eq_true rfl) rfl (Nat.le_of_ble_eq_true rfl) rfl (fun xx7 hh8 hphh8 => ?_)
    obtain ⟨qq9, rfl⟩ := hphh8
    rw [qq9]
    refine q_istore (pc' := 28) (L' := [some (vR m), some (vI xj), some (vI C), some (vI (C - (S.V 3 j))), some (vI (C - (S.V 3 j))), some (vI (S.V 4 j))]) (dk_at dkX6_costOf 17 rfl) (by decide) rfl rfl ?_
    refine q_aload_n (pc' := 29) (dk_at dkX6_costOf 18 rfl) rfl rfl ?_
    refine r_getf (pc' := 32) fl_RX6_7 (dk_at dkX6_costOf 19 rfl) hM.obj rfl rfl ?_
    refine q_bipush (pc' := 34) (dk_at dkX6_costOf 20 rfl) (by decide +kernel) rfl ?_
    refine r_iald (pc' := 35) (dk_at dkX6_costOf 21 rfl) hM.all 63 (by omega) (by omega) (by decide) rfl ?_
    rcases (show (A 63) = 0 ∨ (A 63) = 1 ∨ (A 63) = 2 ∨ (A 63) = 3 ∨ (A 63) = 4 ∨ ((A 63) < 0 ∨ 4 < (A 63)) by omega) with q35 | q35 | q35 | q35 | q35 | q35
    · refine q_tableIn (tgt := 68) (dk_at dkX6_costOf 22 rfl) (by omega) (by omega) (by omega) (by rw [q35]; rfl) rfl ?_
      refine q_iload (pc' := 70) (dk_at dkX6_costOf 23 rfl) rfl rfl ?_
      refine q_iload_n (pc' := 71) (dk_at dkX6_costOf 24 rfl) rfl rfl ?_
      refine q_imul (pc' := 72) (dk_at dkX6_costOf 25 rfl) rfl ?_
      refine r_iret rfl (dk_at dkX6_costOf 26 rfl) ?_
      refine ⟨rfl, ?_⟩
      unfold pen penz
      first | (exfalso; omega; done) | (rw [if_neg (by omega), if_neg (by omega), if_neg (by omega), if_pos (by omega)]; done) | (rw [if_neg (by omega), if_neg (by omega), if_pos (by omega)]; done) | (rw [if_pos (by omega)]; done) | (rw [if_neg (by omega), if_pos (by omega)]; done) | (rw [if_neg (by omega), if_neg (by omega), if_neg (by omega), if_neg (by omega), if_pos (by omega)]; done) | (rw [if_neg (by omega), if_neg (by omega), if_neg (by omega), if_pos (by omega)]; omega; done) | (rw [if_neg (by omega), if_neg (by omega), if_neg (by omega), if_pos (by omega)]; simp; done) | (rw [if_neg (by omega), if_neg (by omega), if_neg (by omega), if_neg (by omega), if_neg (by omega), if_pos (by omega)]; done) | (rw [if_neg (by omega), if_neg (by omega), if_neg (by omega), if_neg (by omega), if_neg (by omega), if_neg (by omega)]; done)
    · refine q_tableIn (tgt := 73) (dk_at dkX6_costOf 22 rfl) (by omega) (by omega) (by omega) (by rw [q35]; rfl) rfl ?_
      refine q_iload (pc' := 75) (dk_at dkX6_costOf 27 rfl) rfl rfl ?_
      refine q_iload (pc' := 77) (dk_at dkX6_costOf 28 rfl) rfl rfl ?_
      refine q_imul (pc' := 78) (dk_at dkX6_costOf 29 rfl) rfl ?_
      refine r_iret rfl (dk_at dkX6_costOf 30 rfl) ?_
      refine ⟨rfl, ?_⟩
      unfold pen penz
      first | (exfalso; omega; done) | (rw [if_neg (by omega), if_neg (by omega), if_neg (by omega), if_pos (by omega)]; done) | (rw [if_neg (by omega), if_neg (by omega), if_pos (by omega)]; done) | (rw [if_pos (by omega)]; done) | (rw [if_neg (by omega), if_pos (by omega)]; done) | (rw [if_neg (by omega), if_neg (by omega), if_neg (by omega), if_neg (by omega), if_pos (by omega)]; done) | (rw [if_neg (by omega), if_neg (by omega), if_neg (by omega), if_pos (by omega)]; omega; done) | (rw [if_neg (by omega), if_neg (by omega), if_neg (by omega), if_pos (by omega)]; simp; done) | (rw [if_neg (by omega), if_neg (by omega), if_neg (by omega), if_neg (by omega), if_neg (by omega), if_pos (by omega)]; done) | (rw [if_neg (by omega), if_neg (by omega), if_neg (by omega), if_neg (by omega), if_neg (by omega), if_neg (by omega)]; done)
    · refine q_tableIn (tgt := 79) (dk_at dkX6_costOf 22 rfl) (by omega) (by omega) (by omega) (by rw [q35]; rfl) rfl ?_
      refine q_iload (pc' := 81) (dk_at dkX6_costOf 31 rfl) rfl rfl ?_
      refine q_iload (pc' := 83) (dk_at dkX6_costOf 32 rfl) rfl rfl ?_
      refine q_imul (pc' := 84) (dk_at dkX6_costOf 33 rfl) rfl ?_
      refine q_iload (pc' := 86) (dk_at dkX6_costOf 34 rfl) rfl rfl ?_
      refine q_imul (pc' := 87) (dk_at dkX6_costOf 35 rfl) rfl ?_
      refine r_iret rfl (dk_at dkX6_costOf 36 rfl) ?_
      refine ⟨rfl, ?_⟩
      unfold pen penz
      first | (exfalso; omega; done) | (rw [if_neg (by omega), if_neg (by omega), if_neg (by omega), if_pos (by omega)]; done) | (rw [if_neg (by omega), if_neg (by omega), if_pos (by omega)]; done) | (rw [if_pos (by omega)]; done) | (rw [if_neg (by omega), if_pos (by omega)]; done) | (rw [if_neg (by omega), if_neg (by omega), if_neg (by omega), if_neg (by omega), if_pos (by omega)]; done) | (rw [if_neg (by omega), if_neg (by omega), if_neg (by omega), if_pos (by omega)]; omega; done) | (rw [if_neg (by omega), if_neg (by omega), if_neg (by omega), if_pos (by omega)]; simp; done) | (rw [if_neg (by omega), if_neg (by omega), if_neg (by omega), if_neg (by omega), if_neg (by omega), if_pos (by omega)]; done) | (rw [if_neg (by omega), if_neg (by omega), if_neg (by omega), if_neg (by omega), if_neg (by omega), if_neg (by omega)]; done)
    · refine q_tableIn (tgt := 88) (dk_at dkX6_costOf 22 rfl) (by omega) (by omega) (by omega) (by rw [q35]; rfl) rfl ?_
      refine q_iload (pc' := 90) (dk_at dkX6_costOf 37 rfl) rfl rfl ?_
      refine q_if_le (tgt := 98) (pc' := 93) (dk_at dkX6_costOf 38 rfl) rfl rfl (by omega) (fun c90 => ?_) (fun c90 => ?_)
      · refine q_iconst (pc' := 99) (dk_at dkX6_costOf 41 rfl) rfl ?_
        refine r_iret rfl (dk_at dkX6_costOf 42 rfl) ?_
        refine ⟨rfl, ?_⟩
        unfold pen penz
        first | (exfalso; omega; done) | (rw [if_neg (by omega), if_neg (by omega), if_neg (by omega), if_pos (by omega)]; done) | (rw [if_neg (by omega), if_neg (by omega), if_pos (by omega)]; done) | (rw [if_pos (by omega)]; done) | (rw [if_neg (by omega), if_pos (by omega)]; done) | (rw [if_neg (by omega), if_neg (by omega), if_neg (by omega), if_neg (by omega), if_pos (by omega)]; done) | (rw [if_neg (by omega), if_neg (by omega), if_neg (by omega), if_pos (by omega)]; omega; done) | (rw [if_neg (by omega), if_neg (by omega), if_neg (by omega), if_pos (by omega)]; simp; done) | (rw [if_neg (by omega), if_neg (by omega), if_neg (by omega), if_neg (by omega), if_neg (by omega), if_pos (by omega)]; done) | (rw [if_neg (by omega), if_neg (by omega), if_neg (by omega), if_neg (by omega), if_neg (by omega), if_neg (by omega)]; done)
      · refine q_iload (pc' := 95) (dk_at dkX6_costOf 39 rfl) rfl rfl ?_
        refine q_goto (tgt := 99) (dk_at dkX6_costOf 40 rfl) rfl ?_
        refine r_iret rfl (dk_at dkX6_costOf 42 rfl) ?_
        refine ⟨rfl, ?_⟩
        unfold pen penz
        first | (exfalso; omega; done) | (rw [if_neg (by omega), if_neg (by omega), if_neg (by omega), if_pos (by omega)]; done) | (rw [if_neg (by omega), if_neg (by omega), if_pos (by omega)]; done) | (rw [if_pos (by omega)]; done) | (rw [if_neg (by omega), if_pos (by omega)]; done) | (rw [if_neg (by omega), if_neg (by omega), if_neg (by omega), if_neg (by omega), if_pos (by omega)]; done) | (rw [if_neg (by omega), if_neg (by omega), if_neg (by omega), if_pos (by omega)]; omega; done) | (rw [if_neg (by omega), if_neg (by omega), if_neg (by omega), if_pos (by omega)]; simp; done) | (rw [if_neg (by omega), if_neg (by omega), if_neg (by omega), if_neg (by omega), if_neg (by omega), if_pos (by omega)]; done) | (rw [if_neg (by omega), if_neg (by omega), if_neg (by omega), if_neg (by omega), if_neg (by omega), if_neg (by omega)]; done)
    · refine q_tableIn (tgt := 100) (dk_at dkX6_costOf 22 rfl) (by omega) (by omega) (by omega) (by rw [q35]; rfl) rfl ?_
      refine q_iload_n (pc' := 101) (dk_at dkX6_costOf 43 rfl) rfl rfl ?_
      refine r_iret rfl (dk_at dkX6_costOf 44 rfl) ?_
      refine ⟨rfl, ?_⟩
      unfold pen penz
      first | (exfalso; omega; done) | (rw [if_neg (by omega), if_neg (by omega), if_neg (by omega), if_pos (by omega)]; done) | (rw [if_neg (by omega), if_neg (by omega), if_pos (by omega)]; done) | (rw [if_pos (by omega)]; done) | (rw [if_neg (by omega), if_pos (by omega)]; done) | (rw [if_neg (by omega), if_neg (by omega), if_neg (by omega), if_neg (by omega), if_pos (by omega)]; done) | (rw [if_neg (by omega), if_neg (by omega), if_neg (by omega), if_pos (by omega)]; omega; done) | (rw [if_neg (by omega), if_neg (by omega), if_neg (by omega), if_pos (by omega)]; simp; done) | (rw [if_neg (by omega), if_neg (by omega), if_neg (by omega), if_neg (by omega), if_neg (by omega), if_pos (by omega)]; done) | (rw [if_neg (by omega), if_neg (by omega), if_neg (by omega), if_neg (by omega), if_neg (by omega), if_neg (by omega)]; done)
    · refine q_tableOut (tgt := 102) (dk_at dkX6_costOf 22 rfl) (by omega) (by omega) rfl ?_
      refine q_iload_n (pc' := 103) (dk_at dkX6_costOf 45 rfl) rfl rfl ?_
      refine r_iret rfl (dk_at dkX6_costOf 46 rfl) ?_
      refine ⟨rfl, ?_⟩
      unfold pen penz
      first | (exfalso; omega; done) | (rw [if_neg (by omega), if_neg (by omega), if_neg (by omega), if_pos (by omega)]; done) | (rw [if_neg (by omega), if_neg (by omega), if_pos (by omega)]; done) | (rw [if_pos (by omega)]; done) | (rw [if_neg (by omega), if_pos (by omega)]; done) | (rw [if_neg (by omega), if_neg (by omega), if_neg (by omega), if_neg (by omega), if_pos (by omega)]; done) | (rw [if_neg (by omega), if_neg (by omega), if_neg (by omega), if_pos (by omega)]; omega; done) | (rw [if_neg (by omega), if_neg (by omega), if_neg (by omega), if_pos (by omega)]; simp; done) | (rw [if_neg (by omega), if_neg (by omega), if_neg (by omega), if_neg (by omega), if_neg (by omega), if_pos (by omega)]; done) | (rw [if_neg (by omega), if_neg (by omega), if_neg (by omega), if_neg (by omega), if_neg (by omega), if_neg (by omega)]; done)

set_option maxHeartbeats 4000000 in
set_option maxRecDepth 100000 in
theorem k_M_setup {d n : Nat} {h : PH} {m : Nat} {A sd sq op ss es bo su se tx ba le fr un sF sR sT ad : Nat → Int} {sm th l0 bm tl nf ne nc : Int} {S : Shp} {t : Nat} {fv xt : Int} (hR : MR A S) (hf : -1 ≤ fv ∧ fv ≤ 3) (et : xt = (t : Int)) (ht : t < 4) (hM : isModel n h m A sd sm th sq op l0 ss es bo su se bm tx tl ba le fr un nf ne nc sF sR sT ad) : CtrI mX6_setup d [vR m, vI fv, vI xt] n h (fun x h' => h' = h ∧ x = S.T (fv + 1).toNat t) := by
  refine q_beginI (L := [some (vR m), some (vI fv), some (vI xt)]) rfl ?_
  refine q_iload_n (pc' := 1) (dk_at dkX6_setup 0 rfl) rfl rfl ?_
  refine q_iconst (pc' := 2) (dk_at dkX6_setup 1 rfl) rfl ?_
  refine q_icmp_ne (tgt := 17) (pc' := 5) (dk_at dkX6_setup 2 rfl) rfl rfl (by omega) (by omega) (fun c2 => ?_) (fun c2 => ?_)
  · refine q_aload_n (pc' := 18) (dk_at dkX6_setup 10 rfl) rfl rfl ?_
    refine r_getf (pc' := 21) fl_RX6_7 (dk_at dkX6_setup 11 rfl) hM.obj rfl rfl ?_
    refine q_bipush (pc' := 23) (dk_at dkX6_setup 12 rfl) (by decide +kernel) rfl ?_
    refine q_iconst (pc' := 24) (dk_at dkX6_setup 13 rfl) rfl ?_
    refine q_iload_n (pc' := 25) (dk_at dkX6_setup 14 rfl) rfl rfl ?_
    refine q_imul (pc' := 26) (dk_at dkX6_setup 15 rfl) rfl ?_
    refine q_iadd (pc' := 27) (dk_at dkX6_setup 16 rfl) rfl ?_
    refine q_iload_n (pc' := 28) (dk_at dkX6_setup 17 rfl) rfl rfl ?_
    refine q_iadd (pc' := 29) (dk_at dkX6_setup 18 rfl) rfl ?_
    refine r_iald (pc' := 30) (dk_at dkX6_setup 19 rfl) hM.all (45 + 4 * fv.toNat + t) (by omega) (by omega) (by decide) rfl ?_
    refine r_iret rfl (dk_at dkX6_setup 20 rfl) ?_
    refine ⟨rfl, ?_⟩
    rw [hR.t (by omega) ht, show (fv + 1).toNat = fv.toNat + 1 by omega]
  · refine q_aload_n (pc' := 6) (dk_at dkX6_setup 3 rfl) rfl rfl ?_
    refine r_getf (pc' := 9) fl_RX6_7 (dk_at dkX6_setup 4 rfl) hM.obj rfl rfl ?_
    refine q_bipush (pc' := 11) (dk_at dkX6_setup 5 rfl) (by decide +kernel) rfl ?_
    refine q_iload_n (pc' := 12) (dk_at dkX6_setup 6 rfl) rfl rfl ?_
    refine q_iadd (pc' := 13) (dk_at dkX6_setup 7 rfl) rfl ?_
    refine r_iald (pc' := 14) (dk_at dkX6_setup 8 rfl) hM.all (41 + t) (by omega) (by omega) (by decide) rfl ?_
    refine q_goto (tgt := 30) (dk_at dkX6_setup 9 rfl) rfl ?_
    refine r_iret rfl (dk_at dkX6_setup 20 rfl) ?_
    refine ⟨rfl, ?_⟩
    rw [hR.t0 ht, show (fv + 1).toNat = 0 by omega]
