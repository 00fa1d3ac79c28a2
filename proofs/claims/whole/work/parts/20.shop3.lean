/-! Shop: rules, due dates, the hash; what the JDK and the class's own helpers answer -/
set_option maxHeartbeats 4000000 in
set_option maxRecDepth 100000 in
theorem k_compare {d n : Nat} {h : PH} {x y : Int} (hx : IR x) (hy : IR y) : CtrI mJ6_compare_7cf53 d [vI x, vI y] n h (fun z h' => h' = h ∧ z = cmpz x y) := by
  refine q_beginI (L := [some (vI x), some (vI y)]) rfl ?_
  refine q_iload_n (pc' := 1) (dk_at dkJ6_compare_7cf53 0 rfl) rfl rfl ?_
  refine q_iload_n (pc' := 2) (dk_at dkJ6_compare_7cf53 1 rfl) rfl rfl ?_
  refine q_icmp_ge (tgt := 9) (pc' := 5) (dk_at dkJ6_compare_7cf53 2 rfl) rfl rfl (by omega) (by omega) (fun c2 => ?_) (fun c2 => ?_)
  · refine q_iload_n (pc' := 10) (dk_at dkJ6_compare_7cf53 5 rfl) rfl rfl ?_
    refine q_iload_n (pc' := 11) (dk_at dkJ6_compare_7cf53 6 rfl) rfl rfl ?_
    refine q_icmp_ne (tgt := 18) (pc' := 14) (dk_at dkJ6_compare_7cf53 7 rfl) rfl rfl (by omega) (by omega) (fun c11 => ?_) (fun c11 => ?_)
    · refine q_iconst (pc' := 19) (dk_at dkJ6_compare_7cf53 10 rfl) rfl ?_
      refine r_iret rfl (dk_at dkJ6_compare_7cf53 11 rfl) ?_
      refine ⟨rfl, ?_⟩
      unfold cmpz
      repeat (first | rw [if_pos (by omega)] | rw [if_neg (by omega)])
    · refine q_iconst (pc' := 15) (dk_at dkJ6_compare_7cf53 8 rfl) rfl ?_
      refine q_goto (tgt := 19) (dk_at dkJ6_compare_7cf53 9 rfl) rfl ?_
      refine r_iret rfl (dk_at dkJ6_compare_7cf53 11 rfl) ?_
      refine ⟨rfl, ?_⟩
      unfold cmpz
      repeat (first | rw [if_pos (by omega)] | rw [if_neg (by omega)])
  · refine q_iconst (pc' := 6) (dk_at dkJ6_compare_7cf53 3 rfl) rfl ?_
    refine q_goto (tgt := 19) (dk_at dkJ6_compare_7cf53 4 rfl) rfl ?_
    refine r_iret rfl (dk_at dkJ6_compare_7cf53 11 rfl) ?_
    refine ⟨rfl, ?_⟩
    unfold cmpz
    repeat (first | rw [if_pos (by omega)] | rw [if_neg (by omega)])

set_option maxHeartbeats 4000000 in
set_option maxRecDepth 100000 in
theorem k_mixed {d n : Nat} {h : PH} {x y : Int} : CtrJ mX5_mixed d [vJ x, vJ y] n h (fun z h' => h' = h ∧ z = 31 * x + y) := by
  refine q_beginJ (L := [some (vJ x), none, some (vJ y), none]) rfl ?_
  refine q_ldc2 (pc' := 3) (z := 31) kc_RX5_237 (by decide +kernel) (dk_at dkX5_mixed 0 rfl) rfl ?_
  refine q_lload_n (pc' := 4) (dk_at dkX5_mixed 1 rfl) rfl rfl ?_
  refine q_lmul (pc' := 5) (dk_at dkX5_mixed 2 rfl) rfl ?_
  refine q_lload_n (pc' := 6) (dk_at dkX5_mixed 3 rfl) rfl rfl ?_
  refine q_ladd (pc' := 7) (dk_at dkX5_mixed 4 rfl) rfl ?_
  refine r_lret rfl (dk_at dkX5_mixed 5 rfl) ?_
  exact ⟨rfl, rfl⟩

def dueTo (V : Nat → Nat → Int) (f : Int) : Nat → Int
  | 0 => 500
  | j + 1 => if V 0 j = f then min (dueTo V f j) (V 3 j) else dueTo V f j
def cmpF (S : Shp) (a b : Nat) : Int := if S.V 0 a = S.V 0 b then cmpz (S.V 3 a) (S.V 3 b) else if dueTo S.V (S.V 0 a) S.cnt = dueTo S.V (S.V 0 b) S.cnt then cmpz (S.V 0 a) (S.V 0 b) else cmpz (dueTo S.V (S.V 0 a) S.cnt) (dueTo S.V (S.V 0 b) S.cnt)
def cmpR (S : Shp) (rule : Nat) (a b : Nat) : Int := if rule = 0 then cmpz (S.V 2 a) (S.V 2 b) else if rule = 1 then cmpz (S.V 3 a) (S.V 3 b) else if rule = 2 then cmpz (S.V 1 a * S.V 4 b) (S.V 1 b * S.V 4 a) else cmpF S a b
theorem dueTo_r {V : Nat → Nat → Int} (hV : Vok V) (f : Int) : ∀ j, 0 ≤ dueTo V f j ∧ dueTo V f j ≤ 500
  | 0 => by unfold dueTo; omega
  | j + 1 => by
    have := dueTo_r hV f j
    have := hV 3 j
    unfold dueTo
    split <;> omega
set_option maxHeartbeats 4000000 in
set_option maxRecDepth 100000 in
theorem l_due {d n : Nat} {h : PH} {s : Nat} {S : Shp} {f : Int} (hd : 1 ≤ d) (hS : isShop n h s (S.cnt : Int) S.V S.T S.wh S.er S.ob) (hc8 : S.cnt ≤ 8) (hV : Vok S.V) (hf : IR f) : ∀ (c : Nat) (j : Nat) (z : Int), (j + c = S.cnt) → (z = dueTo S.V f j) → (0 ≤ z ∧ z ≤ 500) → QN mX2_dueOfFamily d (FI n (fun x h' => h' = h ∧ x = dueTo S.V f S.cnt)) 8 [some (vR s), some (vI f), some (vI z), some (vI (j : Int))] [] n h := by
  intro c
  induction c with
  | zero =>
    intro j z hc hz hz2
    refine q_iload_n (pc' := 9) (dk_at dkX2_dueOfFamily 6 rfl) rfl rfl ?_
    refine q_aload_n (pc' := 10) (dk_at dkX2_dueOfFamily 7 rfl) rfl rfl ?_
    refine r_getf (pc' := 13) fl_RX2_27 (dk_at dkX2_dueOfFamily 8 rfl) hS.obj rfl rfl ?_
    refine q_icmp_ge (tgt := 55) (pc' := 16) (dk_at dkX2_dueOfFamily 9 rfl) rfl rfl (by omega) (by omega) (fun c13 => ?_) (fun c13 => ?_)
    · refine q_iload_n (pc' := 56) (dk_at dkX2_dueOfFamily 35 rfl) rfl rfl ?_
      refine r_iret rfl (dk_at dkX2_dueOfFamily 36 rfl) ?_
      exact ⟨rfl, by rw [hz, show j = S.cnt by omega]⟩
    · exfalso
      omega
  | succ c ih =>
    intro j z hc hz hz2
    refine q_iload_n (pc' := 9) (dk_at dkX2_dueOfFamily 6 rfl) rfl rfl ?_
    refine q_aload_n (pc' := 10) (dk_at dkX2_dueOfFamily 7 rfl) rfl rfl ?_
    refine r_getf (pc' := 13) fl_RX2_27 (dk_at dkX2_dueOfFamily 8 rfl) hS.obj rfl rfl ?_
    refine q_icmp_ge (tgt := 55) (pc' := 16) (dk_at dkX2_dueOfFamily 9 rfl) rfl rfl (by omega) (by omega) (fun c13 => ?_) (fun c13 => ?_)
    · refine q_iload_n (pc' := 56) (dk_at dkX2_dueOfFamily 35 rfl) rfl rfl ?_
      refine r_iret rfl (dk_at dkX2_dueOfFamily 36 rfl) ?_
      exact ⟨rfl, by rw [hz, show j = S.cnt by omega]⟩
    · refine q_aload_n (pc' := 17) (dk_at dkX2_dueOfFamily 10 rfl) rfl rfl ?_
      refine r_getf (pc' := 20) fl_RX2_11 (dk_at dkX2_dueOfFamily 11 rfl) hS.obj rfl rfl ?_
      refine q_iconst (pc' := 21) (dk_at dkX2_dueOfFamily 12 rfl) rfl ?_
      refine r_aald1 (pc' := 22) (dk_at dkX2_dueOfFamily 13 rfl) hS.values 0 (by omega) (by omega) (by decide) rfl ?_
      refine q_iload_n (pc' := 23) (dk_at dkX2_dueOfFamily 14 rfl) rfl rfl ?_
      refine r_iald (pc' := 24) (dk_at dkX2_dueOfFamily 15 rfl) (hS.values_at 0 (by omega)) j (by omega) (by omega) (by decide) rfl ?_
      have bb1 := hV 0 j
      refine q_iload_n (pc' := 25) (dk_at dkX2_dueOfFamily 16 rfl) rfl rfl ?_
      refine q_icmp_ne (tgt := 49) (pc' := 28) (dk_at dkX2_dueOfFamily 17 rfl) rfl rfl (by omega) (by omega) (fun c25 => ?_) (fun c25 => ?_)
      · refine q_iinc (pc' := 52) (L' := [some (vR s), some (vI f), some (vI z), some (vI ((j : Int) + 1))]) (dk_at dkX2_dueOfFamily 33 rfl) (by decide) rfl rfl rfl ?_
        rw [show ((j : Int) + 1) = ((j + 1 : Nat) : Int) by omega]
        refine q_goto (tgt := 8) (dk_at dkX2_dueOfFamily 34 rfl) rfl ?_
        exact ih (j + 1) _ (by omega) (by unfold dueTo; split <;> omega) (by have := hV 3 j; omega)
      · refine q_aload_n (pc' := 29) (dk_at dkX2_dueOfFamily 18 rfl) rfl rfl ?_
        refine r_getf (pc' := 32) fl_RX2_11 (dk_at dkX2_dueOfFamily 19 rfl) hS.obj rfl rfl ?_
        refine q_iconst (pc' := 33) (dk_at dkX2_dueOfFamily 20 rfl) rfl ?_
        refine r_aald1 (pc' := 34) (dk_at dkX2_dueOfFamily 21 rfl) hS.values 3 (by omega) (by omega) (by decide) rfl ?_
        refine q_iload_n (pc' := 35) (dk_at dkX2_dueOfFamily 22 rfl) rfl rfl ?_
        refine r_iald (pc' := 36) (dk_at dkX2_dueOfFamily 23 rfl) (hS.values_at 3 (by omega)) j (by omega) (by omega) (by decide) rfl ?_
        have bb2 := hV 3 j
        refine q_iload_n (pc' := 37) (dk_at dkX2_dueOfFamily 24 rfl) rfl rfl ?_
        refine q_icmp_ge (tgt := 49) (pc' := 40) (dk_at dkX2_dueOfFamily 25 rfl) rfl rfl (by omega) (by omega) (fun c37 => ?_) (fun c37 => ?_)
        · refine q_iinc (pc' := 52) (L' := [some (vR s), some (vI f), some (vI z), some (vI ((j : Int) + 1))]) (dk_at dkX2_dueOfFamily 33 rfl) (by decide) rfl rfl rfl ?_
          rw [show ((j : Int) + 1) = ((j + 1 : Nat) : Int) by omega]
          refine q_goto (tgt := 8) (dk_at dkX2_dueOfFamily 34 rfl) rfl ?_
          exact ih (j + 1) _ (by omega) (by unfold dueTo; split <;> omega) (by have := hV 3 j; omega)
        · refine q_aload_n (pc' := 41) (dk_at dkX2_dueOfFamily 26 rfl) rfl rfl ?_
          refine r_getf (pc' := 44) fl_RX2_11 (dk_at dkX2_dueOfFamily 27 rfl) hS.obj rfl rfl ?_
          refine q_iconst (pc' := 45) (dk_at dkX2_dueOfFamily 28 rfl) rfl ?_
          refine r_aald1 (pc' := 46) (dk_at dkX2_dueOfFamily 29 rfl) hS.values 3 (by omega) (by omega) (by decide) rfl ?_
          refine q_iload_n (pc' := 47) (dk_at dkX2_dueOfFamily 30 rfl) rfl rfl ?_
          refine r_iald (pc' := 48) (dk_at dkX2_dueOfFamily 31 rfl) (hS.values_at 3 (by omega)) j (by omega) (by omega) (by decide) rfl ?_
          have bb3 := hV 3 j
          refine q_istore_n (pc' := 49) (L' := [some (vR s), some (vI f), some (vI ((S.V 3) j)), some (vI (j : Int))]) (dk_at dkX2_dueOfFamily 32 rfl) (by decide) rfl rfl ?_
          refine q_iinc (pc' := 52) (L' := [some (vR s), some (vI f), some (vI ((S.V 3) j)), some (vI ((j : Int) + 1))]) (dk_at dkX2_dueOfFamily 33 rfl) (by decide) rfl rfl rfl ?_
          rw [show ((j : Int) + 1) = ((j + 1 : Nat) : Int) by omega]
          refine q_goto (tgt := 8) (dk_at dkX2_dueOfFamily 34 rfl) rfl ?_
          exact ih (j + 1) _ (by omega) (by unfold dueTo; split <;> omega) (by have := hV 3 j; omega)

set_option maxHeartbeats 4000000 in
set_option maxRecDepth 100000 in
theorem k_Shop_dueOfFamily {d n : Nat} {h : PH} {s : Nat} {S : Shp} {f : Int} (hd : 1 ≤ d) (hk : Sok S) (hS : isShp n h s S) (hf : IR f) : CtrI mX2_dueOfFamily d [vR s, vI f] n h (fun x h' => h' = h ∧ x = dueTo S.V f S.cnt) := by
  unfold isShp at hS
  refine q_beginI (L := [some (vR s), some (vI f), none, none]) rfl ?_
  refine q_hi3 (pc' := 5) gs_RX2_64 (dk_at dkX2_dueOfFamily 0 rfl) (dk_at dkX2_dueOfFamily 1 rfl) (dk_at dkX2_dueOfFamily 2 rfl) rfl ?_
  refine q_istore_n (pc' := 6) (L' := [some (vR s), some (vI f), some (vI 500), none]) (dk_at dkX2_dueOfFamily 3 rfl) (by decide) rfl rfl ?_
  refine q_iconst (pc' := 7) (dk_at dkX2_dueOfFamily 4 rfl) rfl ?_
  refine q_istore_n (pc' := 8) (L' := [some (vR s), some (vI f), some (vI 500), some (vI 0)]) (dk_at dkX2_dueOfFamily 5 rfl) (by decide) rfl rfl ?_
  exact l_due hd hS hk.c hk.v hf S.cnt 0 _ (by omega) rfl (by omega)

set_option maxHeartbeats 4000000 in
set_option maxRecDepth 100000 in
theorem k_Shop_compareByFamily {d n : Nat} {h : PH} {s a b : Nat} {S : Shp} {xa xb : Int} (hd : 2 ≤ d) (hk : Sok S) (hS : isShp n h s S) (ea : xa = (a : Int)) (eb : xb = (b : Int)) (ha : a < 8) (hb : b < 8) : CtrI mX2_compareByFamily d [vR s, vI xa, vI xb] n h (fun x h' => h' = h ∧ x = cmpF S a b) := by
  have hV := hk.v
  unfold isShp at hS
  refine q_beginI (L := [some (vR s), some (vI xa), some (vI xb), none, none, none, none]) rfl ?_
  refine q_aload_n (pc' := 1) (dk_at dkX2_compareByFamily 0 rfl) rfl rfl ?_
  refine r_getf (pc' := 4) fl_RX2_11 (dk_at dkX2_compareByFamily 1 rfl) hS.obj rfl rfl ?_
  refine q_iconst (pc' := 5) (dk_at dkX2_compareByFamily 2 rfl) rfl ?_
  refine r_aald1 (pc' := 6) (dk_at dkX2_compareByFamily 3 rfl) hS.values 0 (by omega) (by omega) (by decide) rfl ?_
  refine q_iload_n (pc' := 7) (dk_at dkX2_compareByFamily 4 rfl) rfl rfl ?_
  refine r_iald (pc' := 8) (dk_at dkX2_compareByFamily 5 rfl) (hS.values_at 0 (by omega)) a (by omega) (by omega) (by decide) rfl ?_
  have bb1 := hV 0 a
  refine q_istore_n (pc' := 9) (L' := [some (vR s), some (vI xa), some (vI xb), some (vI ((S.V 0) a)), none, none, none]) (dk_at dkX2_compareByFamily 6 rfl) (by decide) rfl rfl ?_
  refine q_aload_n (pc' := 10) (dk_at dkX2_compareByFamily 7 rfl) rfl rfl ?_
  refine r_getf (pc' := 13) fl_RX2_11 (dk_at dkX2_compareByFamily 8 rfl) hS.obj rfl rfl ?_
  refine q_iconst (pc' := 14) (dk_at dkX2_compareByFamily 9 rfl) rfl ?_
  refine r_aald1 (pc' := 15) (dk_at dkX2_compareByFamily 10 rfl) hS.values 0 (by omega) (by omega) (by decide) rfl ?_
  refine q_iload_n (pc' := 16) (dk_at dkX2_compareByFamily 11 rfl) rfl rfl ?_
  refine r_iald (pc' := 17) (dk_at dkX2_compareByFamily 12 rfl) (hS.values_at 0 (by omega)) b (by omega) (by omega) (by decide) rfl ?_
  have bb2 := hV 0 b
  refine q_istore (pc' := 19) (L' := [some (vR s), some (vI xa), some (vI xb), some (vI ((S.V 0) a)), some (vI ((S.V 0) b)), none, none]) (dk_at dkX2_compareByFamily 13 rfl) (by decide) rfl rfl ?_
  refine q_iload_n (pc' := 20) (dk_at dkX2_compareByFamily 14 rfl) rfl rfl ?_
  refine q_iload (pc' := 22) (dk_at dkX2_compareByFamily 15 rfl) rfl rfl ?_
  refine q_icmp_ne (tgt := 45) (pc' := 25) (dk_at dkX2_compareByFamily 16 rfl) rfl rfl (by omega) (by omega) (fun c22 => ?_) (fun c22 => ?_)
  · refine q_aload_n (pc' := 46) (dk_at dkX2_compareByFamily 31 rfl) rfl rfl ?_
    refine q_iload_n (pc' := 47) (dk_at dkX2_compareByFamily 32 rfl) rfl rfl ?_
    refine r_cVI (pc' := 50) (As := [vI ((S.V 0) a)]) (S := []) cv_RX2_60 (dk_at dkX2_compareByFamily 33 rfl) hS.obj rfl (k_Shop_dueOfFamily (d := 1) (by omega) hk hS (by omega)) (by omega) (Nat.zero_le _) (Nat.zero_le _) rfl (Nat.le_of_ble_eq_true rfl) rfl (Nat.le_of_ble_eq_true rfl) rfl (fun xx3 hh4 hphh4 => ?_)
    obtain ⟨qq5, rfl⟩ := hphh4
    rw [qq5]
    have bb6 := dueTo_r hV ((S.V 0) a) S.cnt
    refine q_istore (pc' := 52) (L' := [some (vR s), some (vI xa), some (vI xb), some (vI ((S.V 0) a)), some (vI ((S.V 0) b)), some (vI (dueTo S.V ((S.V 0) a) S.cnt)), none]) (dk_at dkX2_compareByFamily 34 rfl) (by decide) rfl rfl ?_
    refine q_aload_n (pc' := 53) (dk_at dkX2_compareByFamily 35 rfl) rfl rfl ?_
    refine q_iload (pc' := 55) (dk_at dkX2_compareByFamily 36 rfl) rfl rfl ?_
    refine r_cVI (pc' := 58) (As := [vI ((S.V 0) b)]) (S := []) cv_RX2_60 (dk_at dkX2_compareByFamily 37 rfl) hS.obj rfl (k_Shop_dueOfFamily (d := 1) (by omega) hk hS (by omega)) (by omega) (Nat.zero_le _) (Nat.zero_le _) rfl (Nat.le_of_ble_eq_true rfl) rfl (Nat.le_of_ble_eq_true rfl) rfl (fun xx7 hh8 hphh8 => ?_)
    obtain ⟨qq9, rfl⟩ := hphh8
    rw [qq9]
    have bb10 := dueTo_r hV ((S.V 0) b) S.cnt
    refine q_istore (pc' := 60) (L' := [some (vR s), some (vI xa), some (vI xb), some (vI ((S.V 0) a)), some (vI ((S.V 0) b)), some (vI (dueTo S.V ((S.V 0) a) S.cnt)), some (vI (dueTo S.V ((S.V 0) b) S.cnt))]) (dk_at dkX2_compareByFamily 38 rfl) (by decide) rfl rfl ?_
    refine q_iload (pc' := 62) (dk_at dkX2_compareByFamily 39 rfl) rfl rfl ?_
    refine q_iload (pc' := 64) (dk_at dkX2_compareByFamily 40 rfl) rfl rfl ?_
    refine q_icmp_eq (tgt := 77) (pc' := 67) (dk_at dkX2_compareByFamily 41 rfl) rfl rfl (by omega) (by omega) (fun c64 => ?_) (fun c64 => ?_)
    · refine q_iload_n (pc' := 78) (dk_at dkX2_compareByFamily 46 rfl) rfl rfl ?_
      refine q_iload (pc' := 80) (dk_at dkX2_compareByFamily 47 rfl) rfl rfl ?_
      refine r_cSI (pc' := 83) (As := [vI ((S.V 0) a), vI ((S.V 0) b)]) (S := []) cs_RX2_51 (dk_at dkX2_compareByFamily 48 rfl) (k_compare (d := 0) (by omega) (by omega)) (by omega) (Nat.zero_le _) (Nat.zero_le _) rfl (Nat.le_of_ble_eq_true rfl) rfl (Nat.le_of_ble_eq_true rfl) rfl (fun xx11 hh12 hphh12 => ?_)
      obtain ⟨qq13, rfl⟩ := hphh12
      rw [qq13]
      refine r_iret rfl (dk_at dkX2_compareByFamily 49 rfl) ?_
      refine ⟨rfl, ?_⟩
      unfold cmpF
      repeat (first | rw [if_pos (by omega)] | rw [if_neg (by omega)])
    · refine q_iload (pc' := 69) (dk_at dkX2_compareByFamily 42 rfl) rfl rfl ?_
      refine q_iload (pc' := 71) (dk_at dkX2_compareByFamily 43 rfl) rfl rfl ?_
      refine r_cSI (pc' := 74) (As := [vI (dueTo S.V ((S.V 0) a) S.cnt), vI (dueTo S.V ((S.V 0) b) S.cnt)]) (S := []) cs_RX2_51 (dk_at dkX2_compareByFamily 44 rfl) (k_compare (d := 0) (by omega) (by omega)) (by omega) (Nat.zero_le _) (Nat.zero_le _) rfl (Nat.le_of_ble_eq_true rfl) rfl (Nat.le_of_ble_eq_true rfl) rfl (fun xx14 hh15 hphh15 => ?_)
      obtain ⟨qq16, rfl⟩ := hphh15
      rw [qq16]
      refine q_goto (tgt := 83) (dk_at dkX2_compareByFamily 45 rfl) rfl ?_
      refine r_iret rfl (dk_at dkX2_compareByFamily 49 rfl) ?_
      refine ⟨rfl, ?_⟩
      unfold cmpF
      repeat (first | rw [if_pos (by omega)] | rw [if_neg (by omega)])
  · refine q_aload_n (pc' := 26) (dk_at dkX2_compareByFamily 17 rfl) rfl rfl ?_
    refine r_getf (pc' := 29) fl_RX2_11 (dk_at dkX2_compareByFamily 18 rfl) hS.obj rfl rfl ?_
    refine q_iconst (pc' := 30) (dk_at dkX2_compareByFamily 19 rfl) rfl ?_
    refine r_aald1 (pc' := 31) (dk_at dkX2_compareByFamily 20 rfl) hS.values 3 (by omega) (by omega) (by decide) rfl ?_
    refine q_iload_n (pc' := 32) (dk_at dkX2_compareByFamily 21 rfl) rfl rfl ?_
    refine r_iald (pc' := 33) (dk_at dkX2_compareByFamily 22 rfl) (hS.values_at 3 (by omega)) a (by omega) (by omega) (by decide) rfl ?_
    have bb17 := hV 3 a
    refine q_aload_n (pc' := 34) (dk_at dkX2_compareByFamily 23 rfl) rfl rfl ?_
    refine r_getf (pc' := 37) fl_RX2_11 (dk_at dkX2_compareByFamily 24 rfl) hS.obj rfl rfl ?_
    refine q_iconst (pc' := 38) (dk_at dkX2_compareByFamily 25 rfl) rfl ?_
    refine r_aald1 (pc' := 39) (dk_at dkX2_compareByFamily 26 rfl) hS.values 3 (by omega) (by omega) (by decide) rfl ?_
    refine q_iload_n (pc' := 40) (dk_at dkX2_compareByFamily 27 rfl) rfl rfl ?_
    refine r_iald (pc' := 41) (dk_at dkX2_compareByFamily 28 rfl) (hS.values_at 3 (by omega)) b (by omega) (by omega) (by decide) rfl ?_
    have bb18 := hV 3 b
    refine r_cSI (pc' := 44) (As := [vI ((S.V 3) a), vI ((S.V 3) b)]) (S := []) cs_RX2_51 (dk_at dkX2_compareByFamily 29 rfl) (k_compare (d := 0) (by omega) (by omega)) (by omega) (Nat.zero_le _) (Nat.zero_le _) rfl (Nat.le_of_ble_eq_true rfl) rfl (Nat.le_of_ble_eq_true rfl) rfl (fun xx19 hh20 hphh20 => ?_)
    obtain ⟨qq21, rfl⟩ := hphh20
    rw [qq21]
    refine r_iret rfl (dk_at dkX2_compareByFamily 30 rfl) ?_
    refine ⟨rfl, ?_⟩
    unfold cmpF
    repeat (first | rw [if_pos (by omega)] | rw [if_neg (by omega)])

theorem mul_r {x y : Int} {p q : Prop} (hx : 0 ≤ x ∧ x ≤ 500 ∧ p) (hy : 0 ≤ y ∧ y ≤ 500 ∧ q) : 0 ≤ x * y ∧ x * y ≤ 250000 := by
  have h1 := Int.mul_nonneg hx.1 hy.1
  have h2 := Int.mul_le_mul hx.2.1 hy.2.1 hy.1 (by omega)
  omega
set_option maxHeartbeats 4000000 in
set_option maxRecDepth 100000 in
theorem k_Shop_compareByRule {d n : Nat} {h : PH} {s rule a b : Nat} {S : Shp} {xa xb : Int} (hd : 3 ≤ d) (hk : Sok S) (hS : isShp n h s S) (hr : rule ≤ 3) (ea : xa = (a : Int)) (eb : xb = (b : Int)) (ha : a < 8) (hb : b < 8) : CtrI mX2_compareByRule d [vR s, vI (rule : Int), vI xa, vI xb] n h (fun x h' => h' = h ∧ x = cmpR S rule a b) := by
  have hV := hk.v
  unfold isShp at hS
  refine q_beginI (L := [some (vR s), some (vI (rule : Int)), some (vI xa), some (vI xb)]) rfl ?_
  refine q_iload_n (pc' := 1) (dk_at dkX2_compareByRule 0 rfl) rfl rfl ?_
  refine q_if_ne (tgt := 24) (pc' := 4) (dk_at dkX2_compareByRule 1 rfl) rfl rfl (by omega) (fun c1 => ?_) (fun c1 => ?_)
  · refine q_iload_n (pc' := 25) (dk_at dkX2_compareByRule 16 rfl) rfl rfl ?_
    refine q_iconst (pc' := 26) (dk_at dkX2_compareByRule 17 rfl) rfl ?_
    refine q_icmp_ne (tgt := 49) (pc' := 29) (dk_at dkX2_compareByRule 18 rfl) rfl rfl (by omega) (by omega) (fun c26 => ?_) (fun c26 => ?_)
    · refine q_iload_n (pc' := 50) (dk_at dkX2_compareByRule 33 rfl) rfl rfl ?_
      refine q_iconst (pc' := 51) (dk_at dkX2_compareByRule 34 rfl) rfl ?_
      refine q_icmp_ne (tgt := 92) (pc' := 54) (dk_at dkX2_compareByRule 35 rfl) rfl rfl (by omega) (by omega) (fun c51 => ?_) (fun c51 => ?_)
      · refine q_aload_n (pc' := 93) (dk_at dkX2_compareByRule 64 rfl) rfl rfl ?_
        refine q_iload_n (pc' := 94) (dk_at dkX2_compareByRule 65 rfl) rfl rfl ?_
        refine q_iload_n (pc' := 95) (dk_at dkX2_compareByRule 66 rfl) rfl rfl ?_
        refine r_cVI (pc' := 98) (As := [vI xa, vI xb]) (S := []) cv_RX2_57 (dk_at dkX2_compareByRule 67 rfl) hS.obj rfl (k_Shop_compareByFamily (d := 2) (by omega) hk hS ea eb ha hb) (by omega) (Nat.zero_le _) (Nat.zero_le _) rfl (Nat.le_of_ble_eq_true rfl) rfl (Nat.le_of_ble_eq_true rfl) rfl (fun xx1 hh2 hphh2 => ?_)
        obtain ⟨qq3, rfl⟩ := hphh2
        rw [qq3]
        refine r_iret rfl (dk_at dkX2_compareByRule 68 rfl) ?_
        refine ⟨rfl, ?_⟩
        unfold cmpR
        repeat (first | rw [if_pos (by omega)] | rw [if_neg (by omega)])
      · refine q_aload_n (pc' := 55) (dk_at dkX2_compareByRule 36 rfl) rfl rfl ?_
        refine r_getf (pc' := 58) fl_RX2_11 (dk_at dkX2_compareByRule 37 rfl) hS.obj rfl rfl ?_
        refine q_iconst (pc' := 59) (dk_at dkX2_compareByRule 38 rfl) rfl ?_
        refine r_aald1 (pc' := 60) (dk_at dkX2_compareByRule 39 rfl) hS.values 1 (by omega) (by omega) (by decide) rfl ?_
        refine q_iload_n (pc' := 61) (dk_at dkX2_compareByRule 40 rfl) rfl rfl ?_
        refine r_iald (pc' := 62) (dk_at dkX2_compareByRule 41 rfl) (hS.values_at 1 (by omega)) a (by omega) (by omega) (by decide) rfl ?_
        have bb4 := hV 1 a
        refine q_aload_n (pc' := 63) (dk_at dkX2_compareByRule 42 rfl) rfl rfl ?_
        refine r_getf (pc' := 66) fl_RX2_11 (dk_at dkX2_compareByRule 43 rfl) hS.obj rfl rfl ?_
        refine q_iconst (pc' := 67) (dk_at dkX2_compareByRule 44 rfl) rfl ?_
        refine r_aald1 (pc' := 68) (dk_at dkX2_compareByRule 45 rfl) hS.values 4 (by omega) (by omega) (by decide) rfl ?_
        refine q_iload_n (pc' := 69) (dk_at dkX2_compareByRule 46 rfl) rfl rfl ?_
        refine r_iald (pc' := 70) (dk_at dkX2_compareByRule 47 rfl) (hS.values_at 4 (by omega)) b (by omega) (by omega) (by decide) rfl ?_
        have bb5 := hV 4 b
        refine q_imul (pc' := 71) (dk_at dkX2_compareByRule 48 rfl) rfl ?_
        refine q_aload_n (pc' := 72) (dk_at dkX2_compareByRule 49 rfl) rfl rfl ?_
        refine r_getf (pc' := 75) fl_RX2_11 (dk_at dkX2_compareByRule 50 rfl) hS.obj rfl rfl ?_
        refine q_iconst (pc' := 76) (dk_at dkX2_compareByRule 51 rfl) rfl ?_
        refine r_aald1 (pc' := 77) (dk_at dkX2_compareByRule 52 rfl) hS.values 1 (by omega) (by omega) (by decide) rfl ?_
        refine q_iload_n (pc' := 78) (dk_at dkX2_compareByRule 53 rfl) rfl rfl ?_
        refine r_iald (pc' := 79) (dk_at dkX2_compareByRule 54 rfl) (hS.values_at 1 (by omega)) b (by omega) (by omega) (by decide) rfl ?_
        have bb6 := hV 1 b
        refine q_aload_n (pc' := 80) (dk_at dkX2_compareByRule 55 rfl) rfl rfl ?_
        refine r_getf (pc' := 83) fl_RX2_11 (dk_at dkX2_compareByRule 56 rfl) hS.obj rfl rfl ?_
        refine q_iconst (pc' := 84) (dk_at dkX2_compareByRule 57 rfl) rfl ?_
        refine r_aald1 (pc' := 85) (dk_at dkX2_compareByRule 58 rfl) hS.values 4 (by omega) (by omega) (by decide) rfl ?_
        refine q_iload_n (pc' := 86) (dk_at dkX2_compareByRule 59 rfl) rfl rfl ?_
        refine r_iald (pc' := 87) (dk_at dkX2_compareByRule 60 rfl) (hS.values_at 4 (by omega)) a (by omega) (by omega) (by decide) rfl ?_
        have bb7 := hV 4 a
        refine q_imul (pc' := 88) (dk_at dkX2_compareByRule 61 rfl) rfl ?_
        have p1 := mul_r (hV 1 a) (hV 4 b)
        have p2 := mul_r (hV 1 b) (hV 4 a)
        refine r_cSI (pc' := 91) (As := [vI (((S.V 1) a) * ((S.V 4) b)), vI (((S.V 1) b) * ((S.V 4) a))]) (S := []) cs_RX2_51 (dk_at dkX2_compareByRule 62 rfl) (k_compare (d := 0) (by omega) (by omega)) (by omega) (Nat.zero_le _) (Nat.zero_le _) rfl (Nat.le_of_ble_eq_true rfl) rfl (Nat.le_of_ble_eq_true rfl) rfl (fun xx8 hh9 hphh9 => ?_)
        obtain ⟨qq10, rfl⟩ := hphh9
        rw [qq10]
        refine r_iret rfl (dk_at dkX2_compareByRule 63 rfl) ?_
        refine ⟨rfl, ?_⟩
        unfold cmpR
        repeat (first | rw [if_pos (by omega)] | rw [if_neg (by omega)])
    · refine q_aload_n (pc' := 30) (dk_at dkX2_compareByRule 19 rfl) rfl rfl ?_
      refine r_getf (pc' := 33) fl_RX2_11 (dk_at dkX2_compareByRule 20 rfl) hS.obj rfl rfl ?_
      refine q_iconst (pc' := 34) (dk_at dkX2_compareByRule 21 rfl) rfl ?_
      refine r_aald1 (pc' := 35) (dk_at dkX2_compareByRule 22 rfl) hS.values 3 (by omega) (by omega) (by decide) rfl ?_
      refine q_iload_n (pc' := 36) (dk_at dkX2_compareByRule 23 rfl) rfl rfl ?_
      refine r_iald (pc' := 37) (dk_at dkX2_compareByRule 24 rfl) (hS.values_at 3 (by omega)) a (by omega) (by omega) (by decide) rfl ?_
      have bb11 := hV 3 a
      refine q_aload_n (pc' := 38) (dk_at dkX2_compareByRule 25 rfl) rfl rfl ?_
      refine r_getf (pc' := 41) fl_RX2_11 (dk_at dkX2_compareByRule 26 rfl) hS.obj rfl rfl ?_
      refine q_iconst (pc' := 42) (dk_at dkX2_compareByRule 27 rfl) rfl ?_
      refine r_aald1 (pc' := 43) (dk_at dkX2_compareByRule 28 rfl) hS.values 3 (by omega) (by omega) (by decide) rfl ?_
      refine q_iload_n (pc' := 44) (dk_at dkX2_compareByRule 29 rfl) rfl rfl ?_
      refine r_iald (pc' := 45) (dk_at dkX2_compareByRule 30 rfl) (hS.values_at 3 (by omega)) b (by omega) (by omega) (by decide) rfl ?_
      have bb12 := hV 3 b
      refine r_cSI (pc' := 48) (As := [vI ((S.V 3) a), vI ((S.V 3) b)]) (S := []) cs_RX2_51 (dk_at dkX2_compareByRule 31 rfl) (k_compare (d := 0) (by omega) (by omega)) (by omega) (Nat.zero_le _) (Nat.zero_le _) rfl (Nat.le_of_ble_eq_true rfl) rfl (Nat.le_of_ble_eq_true rfl) rfl (fun xx13 hh14 hphh14 => ?_)
      obtain ⟨qq15, rfl⟩ := hphh14
      rw [qq15]
      refine r_iret rfl (dk_at dkX2_compareByRule 32 rfl) ?_
      refine ⟨rfl, ?_⟩
      unfold cmpR
      repeat (first | rw [if_pos (by omega)] | rw [if_neg (by omega)])
  · refine q_aload_n (pc' := 5) (dk_at dkX2_compareByRule 2 rfl) rfl rfl ?_
    refine r_getf (pc' := 8) fl_RX2_11 (dk_at dkX2_compareByRule 3 rfl) hS.obj rfl rfl ?_
    refine q_iconst (pc' := 9) (dk_at dkX2_compareByRule 4 rfl) rfl ?_
    refine r_aald1 (pc' := 10) (dk_at dkX2_compareByRule 5 rfl) hS.values 2 (by omega) (by omega) (by decide) rfl ?_
    refine q_iload_n (pc' := 11) (dk_at dkX2_compareByRule 6 rfl) rfl rfl ?_
    refine r_iald (pc' := 12) (dk_at dkX2_compareByRule 7 rfl) (hS.values_at 2 (by omega)) a (by omega) (by omega) (by decide) rfl ?_
    have bb16 := hV 2 a
    refine q_aload_n (pc' := 13) (dk_at dkX2_compareByRule 8 rfl) rfl rfl ?_
    refine r_getf (pc' := 16) fl_RX2_11 (dk_at dkX2_compareByRule 9 rfl) hS.obj rfl rfl ?_
    refine q_iconst (pc' := 17) (dk_at dkX2_compareByRule 10 rfl) rfl ?_
    refine r_aald1 (pc' := 18) (dk_at dkX2_compareByRule 11 rfl) hS.values 2 (by omega) (by omega) (by decide) rfl ?_
    refine q_iload_n (pc' := 19) (dk_at dkX2_compareByRule 12 rfl) rfl rfl ?_
    refine r_iald (pc' := 20) (dk_at dkX2_compareByRule 13 rfl) (hS.values_at 2 (by omega)) b (by omega) (by omega) (by decide) rfl ?_
    have bb17 := hV 2 b
    refine r_cSI (pc' := 23) (As := [vI ((S.V 2) a), vI ((S.V 2) b)]) (S := []) cs_RX2_51 (dk_at dkX2_compareByRule 14 rfl) (k_compare (d := 0) (by omega) (by omega)) (by omega) (Nat.zero_le _) (Nat.zero_le _) rfl (Nat.le_of_ble_eq_true rfl) rfl (Nat.le_of_ble_eq_true rfl) rfl (fun xx18 hh19 hphh19 => ?_)
    obtain ⟨qq20, rfl⟩ := hphh19
    rw [qq20]
    refine r_iret rfl (dk_at dkX2_compareByRule 15 rfl) ?_
    refine ⟨rfl, ?_⟩
    unfold cmpR
    repeat (first | rw [if_pos (by omega)] | rw [if_neg (by omega)])

/-- where job m is put among the first k places of o, by a rule -/
def pR (S : Shp) (rule : Nat) (o : Nat → Int) (m : Nat) : Nat → Nat
  | 0 => 0
  | k + 1 => if 0 < cmpR S rule (o k).toNat m then pR S rule o m k else k + 1
/-- the sequence of the first m jobs by a rule, laid over o -/
def ordR (S : Shp) (rule : Nat) (o : Nat → Int) : Nat → Nat → Int
  | 0 => o
  | m + 1 => insz (ordR S rule o m) m (pR S rule (ordR S rule o m) m m) (m : Int)
theorem pR_le (S : Shp) (rule : Nat) (o : Nat → Int) (m : Nat) : ∀ k, pR S rule o m k ≤ k
  | 0 => Nat.le_refl _
  | k + 1 => by
    have := pR_le S rule o m k
    unfold pR
    split <;> omega
theorem insz_r {o : Nat → Int} {size place : Nat} {job lo hi : Int} (ho : ∀ j, lo ≤ o j ∧ o j ≤ hi) (hj : lo ≤ job ∧ job ≤ hi) : ∀ j, lo ≤ insz o size place job j ∧ insz o size place job j ≤ hi := by
  intro j
  unfold insz
  split
  · exact ho j
  · split
    · exact hj
    · split
      · exact ho _
      · exact ho j
theorem ordR_r {S : Shp} {rule : Nat} {o : Nat → Int} (ho : ∀ j, 0 ≤ o j ∧ o j ≤ 7) : ∀ m, m ≤ 8 → ∀ j, 0 ≤ ordR S rule o m j ∧ ordR S rule o m j ≤ 7
  | 0, _ => ho
  | m + 1, h => insz_r (ordR_r ho m (by omega)) (by omega)
theorem cmpR_IR (S : Shp) (rule a b : Nat) : IR (cmpR S rule a b) := by
  unfold cmpR cmpF
  repeat (first | exact cmpz_IR _ _ | split)
set_option maxHeartbeats 4000000 in
set_option maxRecDepth 100000 in
theorem l_ord1 {d n : Nat} {F : FT} {h : PH} {s rule r m : Nat} {S : Shp} {o : Nat → Int} (hd : 4 ≤ d) (hk : Sok S) (hr : rule ≤ 3) (hm : m < 8) (hsr : r + 1 ≤ s ∨ s + 13 ≤ r) (hO : ∀ j, 0 ≤ o j ∧ o j ≤ 7) (hex : ∀ (o1 : Nat → Int) (h1 : PH), (∀ j, o1 j = if pR S rule o m m < j ∧ j ≤ m then o (j - 1) else o j) → isIRow n h1 r o1 → isShop n h1 s (S.cnt : Int) S.V S.T S.wh S.er S.ob → Fr h h1 r (r + 1) → QN mX2_orderByRule d F 49 [some (vR s), some (vI (rule : Int)), some (vR r), some (vI (m : Int)), some (vI ((pR S rule o m m : Nat) : Int))] [] n h1) : ∀ (c : Nat) (t : Nat) (o1 : Nat → Int) (h1 : PH), (t = c) → (t ≤ m) → (pR S rule o m m = pR S rule o m t) → ((∀ j, o1 j = if t < j ∧ j ≤ m then o (j - 1) else o j)) → (isIRow n h1 r o1) → (isShop n h1 s (S.cnt : Int) S.V S.T S.wh S.er S.ob) → (Fr h h1 r (r + 1)) → QN mX2_orderByRule d F 13 [some (vR s), some (vI (rule : Int)), some (vR r), some (vI (m : Int)), some (vI (t : Int))] [] n h1 := by
  intro c
  induction c with
  | zero =>
    intro t o1 h1 hc htm ht ho hI hS hF
    refine q_iload (pc' := 15) (dk_at dkX2_orderByRule 8 rfl) rfl rfl ?_
    refine q_if_le (tgt := 49) (pc' := 18) (dk_at dkX2_orderByRule 9 rfl) rfl rfl (by omega) (fun c15 => ?_) (fun c15 => ?_)
    · have et : pR S rule o m m = t := by
        rw [ht]
        first
          | (rw [show t = 0 by omega]; rfl)
          | (obtain ⟨t1, rfl⟩ : ∃ q, t = q + 1 := ⟨t - 1, by omega⟩
             show (if _ then _ else _) = _
             have e1 := ho t1
             rw [if_neg (by omega)] at e1
             rw [if_neg (by rw [← e1]; exact Int.not_lt.mpr c30)])
      rw [← et]
      exact hex o1 h1 (by rw [et]; exact ho) hI hS hF
    · exfalso
      omega
  | succ c ih =>
    intro t o1 h1 hc htm ht ho hI hS hF
    refine q_iload (pc' := 15) (dk_at dkX2_orderByRule 8 rfl) rfl rfl ?_
    refine q_if_le (tgt := 49) (pc' := 18) (dk_at dkX2_orderByRule 9 rfl) rfl rfl (by omega) (fun c15 => ?_) (fun c15 => ?_)
    · have et : pR S rule o m m = t := by
        rw [ht]
        first
          | (rw [show t = 0 by omega]; rfl)
          | (obtain ⟨t1, rfl⟩ : ∃ q, t = q + 1 := ⟨t - 1, by omega⟩
             show (if _ then _ else _) = _
             have e1 := ho t1
             rw [if_neg (by omega)] at e1
             rw [if_neg (by rw [← e1]; exact Int.not_lt.mpr c30)])
      rw [← et]
      exact hex o1 h1 (by rw [et]; exact ho) hI hS hF
    · have hO1 : ∀ j, 0 ≤ o1 j ∧ o1 j ≤ 7 := fun j => by rw [ho]; split <;> exact hO _
      refine q_aload_n (pc' := 19) (dk_at dkX2_orderByRule 10 rfl) rfl rfl ?_
      refine q_iload_n (pc' := 20) (dk_at dkX2_orderByRule 11 rfl) rfl rfl ?_
      refine q_aload_n (pc' := 21) (dk_at dkX2_orderByRule 12 rfl) rfl rfl ?_
      refine q_iload (pc' := 23) (dk_at dkX2_orderByRule 13 rfl) rfl rfl ?_
      refine q_iconst (pc' := 24) (dk_at dkX2_orderByRule 14 rfl) rfl ?_
      refine q_isub (pc' := 25) (dk_at dkX2_orderByRule 15 rfl) rfl ?_
      refine r_iald (pc' := 26) (dk_at dkX2_orderByRule 16 rfl) hI.row (t - 1) (by omega) (by omega) (by decide) rfl ?_
      have bb1 := hO1 (t - 1)
      refine q_iload_n (pc' := 27) (dk_at dkX2_orderByRule 17 rfl) rfl rfl ?_
      refine r_cVI (pc' := 30) (As := [vI (rule : Int), vI (o1 (t - 1)), vI (m : Int)]) (S := []) cv_RX2_47 (dk_at dkX2_orderByRule 18 rfl) hS.obj rfl (k_Shop_compareByRule (d := 3) (a := (o1 (t - 1)).toNat) (b := m) (by omega) hk hS hr (by omega) rfl (by omega) (by omega)) (by omega) (Nat.zero_le _) (Nat.zero_le _) rfl (Nat.le_of_ble_eq_true rfl) rfl (Nat.le_of_ble_eq_true rfl) rfl (fun xx2 hh3 hphh3 => ?_)
      obtain ⟨qq4, rfl⟩ := hphh3
      rw [qq4]
      have hir := cmpR_IR S rule (o1 (t - 1)).toNat m
      refine q_if_le (tgt := 49) (pc' := 33) (dk_at dkX2_orderByRule 19 rfl) rfl rfl (by omega) (fun c30 => ?_) (fun c30 => ?_)
      · have et : pR S rule o m m = t := by
          rw [ht]
          first
            | (rw [show t = 0 by omega]; rfl)
            | (obtain ⟨t1, rfl⟩ : ∃ q, t = q + 1 := ⟨t - 1, by omega⟩
               show (if _ then _ else _) = _
               have e1 := ho t1
               rw [if_neg (by omega)] at e1
               rw [if_neg (by rw [← e1]; exact Int.not_lt.mpr c30)])
        rw [← et]
        exact hex o1 h1 (by rw [et]; exact ho) hI hS hF
      · refine q_aload_n (pc' := 34) (dk_at dkX2_orderByRule 20 rfl) rfl rfl ?_
        refine q_iload (pc' := 36) (dk_at dkX2_orderByRule 21 rfl) rfl rfl ?_
        refine q_aload_n (pc' := 37) (dk_at dkX2_orderByRule 22 rfl) rfl rfl ?_
        refine q_iload (pc' := 39) (dk_at dkX2_orderByRule 23 rfl) rfl rfl ?_
        refine q_iconst (pc' := 40) (dk_at dkX2_orderByRule 24 rfl) rfl ?_
        refine q_isub (pc' := 41) (dk_at dkX2_orderByRule 25 rfl) rfl ?_
        refine r_iald (pc' := 42) (dk_at dkX2_orderByRule 26 rfl) hI.row (t - 1) (by omega) (by omega) (by decide) rfl ?_
        have bb5 := hO1 (t - 1)
        refine r_iast (pc' := 43) (dk_at dkX2_orderByRule 27 rfl) hI.row t (by omega) (by omega) (by decide) rfl (fun hh6 ehh6 => ?_)
        have hS := hS.off ehh6 (by omega)
        have hI := hI.w_row ehh6
        have hF := hF.put ehh6 (by omega)
        refine q_iinc (pc' := 46) (L' := [some (vR s), some (vI (rule : Int)), some (vR r), some (vI (m : Int)), some (vI ((t : Int) + (-1)))]) (dk_at dkX2_orderByRule 28 rfl) (by decide) rfl rfl rfl ?_
        rw [show ((t : Int) + (-1)) = ((t - 1 : Nat) : Int) by omega]
        refine q_goto (tgt := 13) (dk_at dkX2_orderByRule 29 rfl) rfl ?_
        refine ih (t - 1) _ _ (by omega) (by omega) ?_ (putAt_step (by omega) htm ho) hI hS hF
        rw [ht]
        obtain ⟨t1, rfl⟩ : ∃ q, t = q + 1 := ⟨t - 1, by omega⟩
        show (if _ then _ else _) = _
        have e1 := ho t1
        rw [if_neg (by omega)] at e1
        rw [if_pos (by rw [← e1]; exact Int.not_le.mp c30)]
        rfl

set_option maxHeartbeats 4000000 in
set_option maxRecDepth 100000 in
theorem l_ord2 {d n : Nat} {h : PH} {s rule r : Nat} {S : Shp} {o : Nat → Int} (hd : 4 ≤ d) (hk : Sok S) (hc8 : S.cnt ≤ 8) (hr : rule ≤ 3) (hsr : r + 1 ≤ s ∨ s + 13 ≤ r) : ∀ (c : Nat) (m : Nat) (o2 : Nat → Int) (h2 : PH) (x4 : Option PV), (m + c = S.cnt) → (o2 = ordR S rule o m) → ((∀ j, 0 ≤ o2 j ∧ o2 j ≤ 7)) → (isIRow n h2 r o2) → (isShop n h2 s (S.cnt : Int) S.V S.T S.wh S.er S.ob) → (Fr h h2 r (r + 1)) → QN mX2_orderByRule d (FV n (fun h' => isIRow n h' r (ordR S rule o S.cnt) ∧ Fr h h' r (r + 1))) 2 [some (vR s), some (vI (rule : Int)), some (vR r), some (vI (m : Int)), x4] [] n h2 := by
  intro c
  induction c with
  | zero =>
    intro m o2 h2 x4 hc e2 hO2 hI hS hF
    refine q_iload_n (pc' := 3) (dk_at dkX2_orderByRule 2 rfl) rfl rfl ?_
    refine q_aload_n (pc' := 4) (dk_at dkX2_orderByRule 3 rfl) rfl rfl ?_
    refine r_getf (pc' := 7) fl_RX2_27 (dk_at dkX2_orderByRule 4 rfl) hS.obj rfl rfl ?_
    refine q_icmp_ge (tgt := 60) (pc' := 10) (dk_at dkX2_orderByRule 5 rfl) rfl rfl (by omega) (by omega) (fun c7 => ?_) (fun c7 => ?_)
    · refine r_vret rfl (dk_at dkX2_orderByRule 36 rfl) ?_
      exact ⟨by rw [show m = S.cnt by omega] at e2; rw [← e2]; exact hI, hF⟩
    · exfalso
      omega
  | succ c ih =>
    intro m o2 h2 x4 hc e2 hO2 hI hS hF
    refine q_iload_n (pc' := 3) (dk_at dkX2_orderByRule 2 rfl) rfl rfl ?_
    refine q_aload_n (pc' := 4) (dk_at dkX2_orderByRule 3 rfl) rfl rfl ?_
    refine r_getf (pc' := 7) fl_RX2_27 (dk_at dkX2_orderByRule 4 rfl) hS.obj rfl rfl ?_
    refine q_icmp_ge (tgt := 60) (pc' := 10) (dk_at dkX2_orderByRule 5 rfl) rfl rfl (by omega) (by omega) (fun c7 => ?_) (fun c7 => ?_)
    · refine r_vret rfl (dk_at dkX2_orderByRule 36 rfl) ?_
      exact ⟨by rw [show m = S.cnt by omega] at e2; rw [← e2]; exact hI, hF⟩
    · refine q_iload_n (pc' := 11) (dk_at dkX2_orderByRule 6 rfl) rfl rfl ?_
      refine q_istore (pc' := 13) (L' := [some (vR s), some (vI (rule : Int)), some (vR r), some (vI (m : Int)), some (vI (m : Int))]) (dk_at dkX2_orderByRule 7 rfl) (by decide) rfl rfl ?_
      refine l_ord1 (h := h) hd hk hr (by omega) hsr hO2 ?_ m m o2 h2 rfl (Nat.le_refl _) rfl (fun j => by rw [if_neg (by omega)]) hI hS hF
      intro o1 h1 ho hI hS hF
      have hpm := pR_le S rule o2 m m
      refine q_aload_n (pc' := 50) (dk_at dkX2_orderByRule 30 rfl) rfl rfl ?_
      refine q_iload (pc' := 52) (dk_at dkX2_orderByRule 31 rfl) rfl rfl ?_
      refine q_iload_n (pc' := 53) (dk_at dkX2_orderByRule 32 rfl) rfl rfl ?_
      refine r_iast (pc' := 54) (dk_at dkX2_orderByRule 33 rfl) hI.row (pR S rule o2 m m) (by omega) (by omega) (by decide) rfl (fun hh1 ehh1 => ?_)
      have hS := hS.off ehh1 (by omega)
      have hI := hI.w_row ehh1
      have hF := hF.put ehh1 (by omega)
      refine q_iinc (pc' := 57) (L' := [some (vR s), some (vI (rule : Int)), some (vR r), some (vI ((m : Int) + 1)), some (vI ((pR S rule o2 m m : Nat) : Int))]) (dk_at dkX2_orderByRule 34 rfl) (by decide) rfl rfl rfl ?_
      rw [show ((m : Int) + 1) = ((m + 1 : Nat) : Int) by omega]
      refine q_goto (tgt := 2) (dk_at dkX2_orderByRule 35 rfl) rfl ?_
      refine ih (m + 1) _ _ _ (by omega) ?_ (insz_r (size := m) (place := pR S rule o2 m m) (job := (m : Int)) hO2 (by omega)) ?_ hS hF
      · rw [e2]; rfl
      · have e3 : (upz o1 (pR S rule o2 m m) (m : Int)) = insz o2 m (pR S rule o2 m m) (m : Int) := by
          funext j
          unfold insz
          by_cases q : j = pR S rule o2 m m
          · subst q
            rw [upz_eq, if_neg (by omega), if_pos rfl]
          · rw [upz_ne q, ho]
            by_cases q2 : pR S rule o2 m m < j ∧ j ≤ m
            · rw [if_pos q2, if_neg (by omega), if_neg (by omega), if_pos (by omega)]
            · rw [if_neg q2]
              by_cases q3 : j < pR S rule o2 m m
              · rw [if_pos q3]
              · rw [if_neg q3, if_neg (by omega), if_neg (by omega)]
        rw [← e3]
        exact hI

set_option maxHeartbeats 4000000 in
set_option maxRecDepth 100000 in
theorem k_Shop_orderByRule {d n : Nat} {h : PH} {s rule r : Nat} {S : Shp} {o : Nat → Int} (hd : 4 ≤ d) (hk : Sok S) (hS : isShp n h s S) (hr : rule ≤ 3) (hsr : r + 1 ≤ s ∨ s + 13 ≤ r) (hO : ∀ j, 0 ≤ o j ∧ o j ≤ 7) (hI : isIRow n h r o) : CtrV mX2_orderByRule d [vR s, vI (rule : Int), vR r] n h (fun h' => isIRow n h' r (ordR S rule o S.cnt) ∧ Fr h h' r (r + 1)) := by
  unfold isShp at hS
  have hc8 := hk.c
  refine q_beginV (L := [some (vR s), some (vI (rule : Int)), some (vR r), none, none]) rfl ?_
  refine q_iconst (pc' := 1) (dk_at dkX2_orderByRule 0 rfl) rfl ?_
  refine q_istore_n (pc' := 2) (L' := [some (vR s), some (vI (rule : Int)), some (vR r), some (vI 0), none]) (dk_at dkX2_orderByRule 1 rfl) (by decide) rfl rfl ?_
  exact l_ord2 hd hk hc8 hr hsr S.cnt 0 o h none (by omega) rfl hO hI hS Fr.rf
