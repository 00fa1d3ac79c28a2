/-! THE JDK's OWN METHODS, AND WHAT MAKES CELLS -/
def JKk (own : String) (i : Nat) (y : MethodName) (C : String) (bytes : ByteArray) (nl : Nat) (ret : Option FieldType) : Prop := Cond.methodLink own i y ∈ TB ∧ Cond.static y ∈ TB ∧ Cond.initialized C ∈ TB ∧ Cond.code y bytes nl ret ∈ TB
def JCk (own : String) (i : Nat) : Prop := Cond.methodLink own i arraycopyName ∈ TB ∧ Cond.native arraycopyName ∈ TB ∧ Cond.static arraycopyName ∈ TB ∧ Cond.initialized "java/lang/System" ∈ TB
def JOk (own : String) (i : Nat) : Prop := Cond.methodLink own i Lib.objectInit ∈ TB ∧ Cond.instanceMethod Lib.objectInit ∈ TB ∧ Cond.code Lib.objectInit ⟨#[0xb1]⟩ 1 none ∈ TB
def cpz (f g : Nat → Int) (sp dp n : Nat) : Nat → Int := fun k => if dp ≤ k ∧ k < dp + n then f (sp + (k - dp)) else g k
theorem o32_max {x y : Int} (hx : IR x) (hy : IR y) : (if Int32.ofInt x < Int32.ofInt y then Int32.ofInt y else Int32.ofInt x) = Int32.ofInt (max x y) := by
  by_cases q : x < y
  · rw [if_pos ((o32_lt hx hy).mpr q), Int.max_eq_right (by omega)]
  · rw [if_neg (fun z => q ((o32_lt hx hy).mp z)), Int.max_eq_left (by omega)]
theorem o32_min {x y : Int} (hx : IR x) (hy : IR y) : (if Int32.ofInt y < Int32.ofInt x then Int32.ofInt y else Int32.ofInt x) = Int32.ofInt (min x y) := by
  by_cases q : y < x
  · rw [if_pos ((o32_lt hy hx).mpr q), Int.min_eq_right (by omega)]
  · rw [if_neg (fun z => q ((o32_lt hy hx).mp z)), Int.min_eq_left (by omega)]
theorem o64_max {x y : Int} (hx : LR x) (hy : LR y) : (if Int64.ofInt y < Int64.ofInt x then Int64.ofInt x else Int64.ofInt y) = Int64.ofInt (max x y) := by
  by_cases q : y < x
  · rw [if_pos ((o64_lt hy hx).mpr q), Int.max_eq_left (by omega)]
  · rw [if_neg (fun z => q ((o64_lt hy hx).mp z)), Int.max_eq_right (by omega)]
theorem o64_min {x y : Int} (hx : LR x) (hy : LR y) : (if Int64.ofInt y < Int64.ofInt x then Int64.ofInt y else Int64.ofInt x) = Int64.ofInt (min x y) := by
  by_cases q : y < x
  · rw [if_pos ((o64_lt hy hx).mpr q), Int.min_eq_right (by omega)]
  · rw [if_neg (fun z => q ((o64_lt hy hx).mp z)), Int.min_eq_left (by omega)]
section QJDK
variable {M : MD} {d mc ms : Nat} {F : FT} {k u pc pc' : Nat} {L : List (Option PV)} {S : List PV} {a : Bool} {n : Nat} {h : PH}
theorem q_max {i : Nat} {x y : Int} (hL : JKk M.1 i Lib.Math.max.name "java/lang/Math" Lib.Math.max.code 2 (some .int)) (hdg : decode M.2.2.1 pc = .ok (.invokestatic i, 3)) (hx : IR x) (hy : IR y) (hd : 1 ≤ d) (hkc : k ≤ mc) (huc : u ≤ ms) (hsum : catS S ≤ 8) (hq : pc + 3 = pc') (kk : QW M d mc ms F k u pc' L (vI (max x y) :: S) a n h) : QW M d mc ms F k u pc L (vI y :: vI x :: S) a n h := by
  subst hq
  intro p l e R s m args below meth c D B K X H locs ls O Hl HP Hs HS
  obtain ⟨hx', hb, hr, hml, hown, hts, hlocks, hname, ⟨r1, r2, r3, r4⟩, hWd, htab⟩ := id O
  refine va_mmax hx' hb (hml.trans Hl.1.symm) hown (hts _ hL.1) (hts _ hL.2.1) (hts _ hL.2.2.1) (hts _ hL.2.2.2) (by omega) (by rw [catS_eq]; omega) (by omega) (by omega) hdg ?_
  rw [o32_max hx hy]
  exact kk p l e R s m args below meth c D B K X H locs ls O Hl HP Hs HS
theorem q_min {i : Nat} {x y : Int} (hL : JKk M.1 i Lib.Math.min.name "java/lang/Math" Lib.Math.min.code 2 (some .int)) (hdg : decode M.2.2.1 pc = .ok (.invokestatic i, 3)) (hx : IR x) (hy : IR y) (hd : 1 ≤ d) (hkc : k ≤ mc) (huc : u ≤ ms) (hsum : catS S ≤ 8) (hq : pc + 3 = pc') (kk : QW M d mc ms F k u pc' L (vI (min x y) :: S) a n h) : QW M d mc ms F k u pc L (vI y :: vI x :: S) a n h := by
  subst hq
  intro p l e R s m args below meth c D B K X H locs ls O Hl HP Hs HS
  obtain ⟨hx', hb, hr, hml, hown, hts, hlocks, hname, ⟨r1, r2, r3, r4⟩, hWd, htab⟩ := id O
  refine va_mmin hx' hb (hml.trans Hl.1.symm) hown (hts _ hL.1) (hts _ hL.2.1) (hts _ hL.2.2.1) (hts _ hL.2.2.2) (by omega) (by rw [catS_eq]; omega) (by omega) (by omega) hdg ?_
  rw [o32_min hx hy]
  exact kk p l e R s m args below meth c D B K X H locs ls O Hl HP Hs HS
theorem q_lmax {i : Nat} {x y : Int} (hL : JKk M.1 i Lib.MathLoose.max_long.x "java/lang/Math" Lib.MathLoose.max_long.code 4 (some .long)) (hdg : decode M.2.2.1 pc = .ok (.invokestatic i, 3)) (hx : LR x) (hy : LR y) (hd : 1 ≤ d) (hkc : k ≤ mc) (huc : u ≤ ms) (hsum : catS S ≤ 8) (hq : pc + 3 = pc') (kk : QW M d mc ms F k u pc' L (vJ (max x y) :: S) a n h) : QW M d mc ms F k u pc L (vJ y :: vJ x :: S) a n h := by
  subst hq
  intro p l e R s m args below meth c D B K X H locs ls O Hl HP Hs HS
  obtain ⟨hx', hb, hr, hml, hown, hts, hlocks, hname, ⟨r1, r2, r3, r4⟩, hWd, htab⟩ := id O
  refine va_mmax_long hx' hb (hml.trans Hl.1.symm) hown (hts _ hL.1) (hts _ hL.2.1) (hts _ hL.2.2.1) (hts _ hL.2.2.2) (by omega) (by rw [catS_eq]; omega) (by omega) (by omega) hdg ?_
  rw [o64_max hx hy]
  exact kk p l e R s m args below meth c D B K X H locs ls O Hl HP Hs HS
theorem q_lmin {i : Nat} {x y : Int} (hL : JKk M.1 i Lib.MathLoose.min_long.x "java/lang/Math" Lib.MathLoose.min_long.code 4 (some .long)) (hdg : decode M.2.2.1 pc = .ok (.invokestatic i, 3)) (hx : LR x) (hy : LR y) (hd : 1 ≤ d) (hkc : k ≤ mc) (huc : u ≤ ms) (hsum : catS S ≤ 8) (hq : pc + 3 = pc') (kk : QW M d mc ms F k u pc' L (vJ (min x y) :: S) a n h) : QW M d mc ms F k u pc L (vJ y :: vJ x :: S) a n h := by
  subst hq
  intro p l e R s m args below meth c D B K X H locs ls O Hl HP Hs HS
  obtain ⟨hx', hb, hr, hml, hown, hts, hlocks, hname, ⟨r1, r2, r3, r4⟩, hWd, htab⟩ := id O
  refine va_mmin_long hx' hb (hml.trans Hl.1.symm) hown (hts _ hL.1) (hts _ hL.2.1) (hts _ hL.2.2.1) (hts _ hL.2.2.2) (by omega) (by rw [catS_eq]; omega) (by omega) (by omega) hdg ?_
  rw [o64_min hx hy]
  exact kk p l e R s m args below meth c D B K X H locs ls O Hl HP Hs HS
/-- System.arraycopy between two rows of ints, from their beginnings -/
theorem q_copy {i : Nat} {o1 o2 N1 N2 q : Nat} {f g : Nat → Int} {cs1 cs2 : List PC} {z : Int} (hL : JCk M.1 i) (hdg : decode M.2.2.1 pc = .ok (.invokestatic i, 3)) (hB1 : Blk n h o1 cs1) (j1 : Nat) (hj1 : cs1[j1]? = some (cI N1 f)) (hB2 : Blk n h o2 cs2) (j2 : Nat) (hj2 : cs2[j2]? = some (cI N2 g)) (hz : z = (q : Int)) (h1 : q ≤ N1) (h2 : q ≤ N2) (h3 : q ≤ 2147483647) (hd : 1 ≤ d) (hsum : catS S ≤ 8) (hq : pc + 3 = pc') (kk : QW M d mc ms F k u pc' L S false n (hp h (o2 + j2) (cI N2 (cpz f g 0 0 q)))) : QW M d mc ms F k u pc L (vI z :: vI 0 :: vR (o2 + j2) :: vI 0 :: vR (o1 + j1) :: S) false n h := by
  subst hq
  subst hz
  intro p l e R s m args below meth c D B K X H locs ls O Hl HP Hs HS
  obtain ⟨hx', hb, hr, hml, hown, hts, hlocks, hname, ⟨r1, r2, r3, r4⟩, hWd, htab⟩ := id O
  have z0 : ¬ Int32.ofInt 0 < 0 := by decide +kernel
  have zq : ¬ Int32.ofInt (q : Int) < 0 := fun w => by have := (o32_lt0 (by omega)).mp w; omega
  have t0 : (Int32.ofInt 0).toNatClampNeg = 0 := by decide +kernel
  have tq : (Int32.ofInt (q : Int)).toNatClampNeg = q := by rw [o32_nat (by omega)]; rfl
  have nf : nativeFrameWords "java/lang/System" "arraycopy" 5 = 7 := by decide +kernel
  refine va_copyi hx' hb (hml.trans Hl.1.symm) hown (hts _ hL.1) (hts _ hL.2.1) (hts _ hL.2.2.1) (hts _ hL.2.2.2) hWd.1 HP wsO_D HS (o1 + j1) (o2 + j2) 0 0 (hB1.ws hj1 B K) (hB2.ws hj2 B K) rfl rfl rfl z0 z0 zq (by rw [t0, tq]; omega) (by rw [t0, tq]; omega) (fun _ _ => rfl) (by omega) (by rw [catS_eq, nf]; omega) hdg ?_
  intro H1 locs1 hP1 hD1 hS1
  rw [t0, tq] at hP1
  have e1 : (va_cpy (fun j => Int32.ofInt (f j)) (fun j => Int32.ofInt (g j)) 0 0 q) = fun j => Int32.ofInt (cpz f g 0 0 q j) := by
    funext j
    unfold va_cpy cpz
    split <;> rfl
  rw [e1] at hP1
  have hP2 : va_P D vwCl ((wsO B K n h).set (o2 + j2) (B + (o2 + j2), te B K (cI N2 (cpz f g 0 0 q)))) H1 := hP1
  rw [wsO_set _ (hB2.lt hj2)] at hP2
  exact kk p l e R s m args below meth c D B K X H1 locs1 ls O Hl hP2 (fun z => by cases z) hS1
/-- Object's own constructor -/
theorem q_objInit {i o : Nat} (hL : JOk M.1 i) (hdg : decode M.2.2.1 pc = .ok (.invokespecial i, 3)) (hd : 1 ≤ d) (hsum : catS S ≤ 8) (hq : pc + 3 = pc') (kk : QW M d mc ms F k u pc' L S a n h) : QW M d mc ms F k u pc L (vR o :: S) a n h := by
  subst hq
  intro p l e R s m args below meth c D B K X H locs ls O Hl HP Hs HS
  obtain ⟨hx', hb, hr, hml, hown, hts, hlocks, hname, ⟨r1, r2, r3, r4⟩, hWd, htab⟩ := id O
  refine W.objInit hx' hb hown (hts _ hL.1) (hts _ hL.2.1) (hts _ hL.2.2) rfl (Hl.1.trans hml.symm) rfl hdg (by omega) ?_ ?_
  · show 2 * 0 + ((S.map (tv B)).map fun v => v.category).sum + 12 ≤ R.locals
    rw [catS_eq]
    omega
  · exact kk p l e R s m args below meth c D B K X H locs ls O Hl HP Hs HS
/-- the heap with one cell more -/
theorem HP_push {D : va_G} {B : Nat} {K : Nat → ClassId} {H H1 : Heap} (hP : va_P D vwCl (wsO B K n h) H) (hs : H.size = B + n) {c : PC} (he : va_at D vwCl (B + n, te B K c) H1) (o1 : ∀ q : Nat, q < H.size → H1[q]? = H[q]?) : va_P D vwCl (wsO B K (n + 1) (hp h n c)) H1 := by
  rw [← wsO_push]
  refine (hP.kept (fun k x hx => o1 x.1 ((hP k x hx).lt))).app (fun k x hx => ?_)
  have hz : k < 1 := (List.getElem?_eq_some_iff.mp hx).1
  rw [show k = 0 by omega] at hx
  cases hx
  exact he
theorem HS_push {B : Nat} {H0 H H1 : Heap} {locs : List Loc} (hS : va_S (fun q => B ≤ q) H0 H locs) (z1 : H.size ≤ H1.size) (o1 : ∀ q : Nat, q < H.size → H1[q]? = H[q]?) : va_S (fun q => B ≤ q) H0 H1 locs :=
  ⟨Nat.le_trans hS.1 z1, fun x h1 h2 => (o1 x (Nat.lt_of_lt_of_le h1 hS.1)).trans (hS.2.1 x h1 h2), hS.2.2⟩
/-- a class that can be made: its link, its fields' first values -/
def NWk (own : String) (i ci : Nat) (fs : List PV) : Prop := ∃ (C : String) (T : u_T) (N : Nat) (ty0 : Nat → FieldType), vwCl[ci]? = some (C, T, N) ∧ fs.length = N ∧ (∀ w ∈ u_ws C T N, w ∈ TB) ∧ Cond.classLink own i C ∈ TB ∧ Cond.instantiable C N ∈ TB ∧ Cond.initialized C ∈ TB ∧ (∀ k, k < N → parseFieldDescriptor (T k).2.2.1 = some (ty0 k)) ∧ ∀ B j, j < N → defaultValue (ty0 j) = vp_V (fs.map (tv B)) j
theorem q_new {i ci : Nat} {fs : List PV} (hN : NWk M.1 i ci fs) (hdg : decode M.2.2.1 pc = .ok (.new i, 3)) (hkc : k + 1 ≤ mc) (huc : u + fs.length ≤ ms) (hq : pc + 3 = pc') (kk : QW M d mc ms F (k + 1) (u + fs.length) pc' L (vR n :: S) true (n + 1) (hp h n (cO ci fs))) : QW M d mc ms F k u pc L S true n h := by
  subst hq
  intro p l e R s m args below meth c D B K X H locs ls O Hl HP Hs HS
  obtain ⟨hx', hb, hr, hml, hown, hts, hlocks, hname, ⟨r1, r2, r3, r4⟩, hWd, htab⟩ := id O
  obtain ⟨C, T, N, ty0, hc, hlen, hin, hcl, hins, hini, hty, hdf⟩ := hN
  subst hlen
  have hKn := hWd.1.1 ci _ hc
  have hs := Hs rfl
  refine W.newcK hx' hb hown (hts _ hcl) (hts _ hins) (hts _ hini) rfl hdg (by omega) (by omega) hKn.2.1 hs fun H1 kC hkC e1 z1 o1 => ?_
  rw [← hs] at o1
  exact kk p l e R s m args below meth c D B K X H1 locs ls O Hl (HP_push HP hs ⟨_, hc, (u_born ty0 hts hin hKn hkC e1 hty).to (hdf B)⟩ o1) (fun _ => by rw [z1, Nat.add_assoc]) (HS_push HS (by omega) o1)
theorem q_newI {x : Int} (N : Nat) (hx : x = (N : Int)) (hw : Cond.arrayClass .int ∈ TB) (hdg : decode M.2.2.1 pc = .ok (.newarray .int, 2)) (hb : N ≤ 100000000) (hkc : k + 1 ≤ mc) (huc : u + N ≤ ms) (hq : pc + 2 = pc') (kk : QW M d mc ms F (k + 1) (u + N) pc' L (vR n :: S) true (n + 1) (hp h n (cI N (fun _ => 0)))) : QW M d mc ms F k u pc L (vI x :: S) true n h := by
  subst hq
  subst hx
  intro p l e R s m args below meth c D B K X H locs ls O Hl HP Hs HS
  obtain ⟨hx', hb', hr, hml, hown, hts, hlocks, hname, ⟨r1, r2, r3, r4⟩, hWd, htab⟩ := id O
  have hs := Hs rfl
  refine va_newaK (atype := .int) hx' hb' (hts _ hw) rfl hdg rfl (fun z => by have := (o32_lt0 (by omega)).mp z; omega) (by rw [o32_nat (by omega)]; rfl : _ = N) (by show N * 4 ≤ _; omega) (by omega) (by omega) hs fun H1 cA e1 z1 o1 hAr hNm => ?_
  have hcA : cA = K 0 := Option.some.inj (hNm.symm.trans (hWd.1.2 0 _ rfl).2)
  subst hcA
  rw [← hs] at o1
  refine kk p l e R s m args below meth c D B K X H1 locs ls O Hl (HP_push HP hs ?_ o1) (fun _ => by rw [z1, Nat.add_assoc]) (HS_push HS (by omega) o1)
  show H1[B + n]? = some (vp_cell _ _)
  rw [e1, vp_cell_i]
  have : (defaultValue (newarray.typeOf .int)) = Value.int (Int32.ofInt 0) := by decide +kernel
  rw [this]
theorem q_newJ {x : Int} (N : Nat) (hx : x = (N : Int)) (hw : Cond.arrayClass .long ∈ TB) (hdg : decode M.2.2.1 pc = .ok (.newarray .long, 2)) (hb : N ≤ 50000000) (hkc : k + 1 ≤ mc) (huc : u + N ≤ ms) (hq : pc + 2 = pc') (kk : QW M d mc ms F (k + 1) (u + N) pc' L (vR n :: S) true (n + 1) (hp h n (cJ N (fun _ => 0)))) : QW M d mc ms F k u pc L (vI x :: S) true n h := by
  subst hq
  subst hx
  intro p l e R s m args below meth c D B K X H locs ls O Hl HP Hs HS
  obtain ⟨hx', hb', hr, hml, hown, hts, hlocks, hname, ⟨r1, r2, r3, r4⟩, hWd, htab⟩ := id O
  have hs := Hs rfl
  refine va_newaK (atype := .long) hx' hb' (hts _ hw) rfl hdg rfl (fun z => by have := (o32_lt0 (by omega)).mp z; omega) (by rw [o32_nat (by omega)]; rfl : _ = N) (by show N * 8 ≤ _; omega) (by omega) (by omega) hs fun H1 cA e1 z1 o1 hAr hNm => ?_
  have hcA : cA = K 1 := Option.some.inj (hNm.symm.trans (hWd.1.2 1 _ rfl).2)
  subst hcA
  rw [← hs] at o1
  refine kk p l e R s m args below meth c D B K X H1 locs ls O Hl (HP_push HP hs ?_ o1) (fun _ => by rw [z1, Nat.add_assoc]) (HS_push HS (by omega) o1)
  show H1[B + n]? = some (vp_cell _ _)
  rw [e1, vp_cell_l]
  have : (defaultValue (newarray.typeOf .long)) = Value.long (Int64.ofInt 0) := by decide +kernel
  rw [this]
theorem q_newS {i : Nat} {x : Int} (N : Nat) (hx : x = (N : Int)) (hw : Cond.classLink M.1 i "BatchMachine$State" ∈ TB) (hdg : decode M.2.2.1 pc = .ok (.anewarray i, 3)) (hb : N ≤ 100000000) (hkc : k + 1 ≤ mc) (huc : u + N ≤ ms) (hq : pc + 3 = pc') (kk : QW M d mc ms F (k + 1) (u + N) pc' L (vR n :: S) true (n + 1) (hp h n (cR 0 N (fun _ => none)))) : QW M d mc ms F k u pc L (vI x :: S) true n h := by
  subst hq
  subst hx
  intro p l e R s m args below meth c D B K X H locs ls O Hl HP Hs HS
  obtain ⟨hx', hb', hr, hml, hown, hts, hlocks, hname, ⟨r1, r2, r3, r4⟩, hWd, htab⟩ := id O
  have hs := Hs rfl
  have eN : (Int32.ofInt (N : Int)).toNatClampNeg = N := by rw [o32_nat (by omega)]; rfl
  refine W.anew hx' hb' hown (hts _ hw) (va_AO.use hWd.2.2.2.1) rfl hdg rfl (fun z => by have := (o32_lt0 (by omega)).mp z; omega) (by rw [eN]; omega) (by omega) (by rw [eN]; omega) fun cA kA comp f1 f2 f3 f4 => ?_
  rw [eN]
  have hcA : cA = K 2 := Option.some.inj (f1.symm.trans (hWd.1.2 2 _ rfl).2.choose_spec.choose_spec.2.2.2)
  subst hcA
  generalize hH1 : H.push ({ cls := K 2, slots := Array.replicate N .null, vm := .none } : Cell) = H1
  have z1 : H1.size = H.size + 1 := by rw [← hH1, Array.size_push]
  have e1 : H1[H.size]? = some (arrV (K 2) N (fun _ => .null)) := by rw [← hH1, Array.getElem?_push_size, ← arrV_new]
  have o1 : ∀ q : Nat, q < H.size → H1[q]? = H[q]? := fun q hq => by rw [← hH1, Array.getElem?_push, if_neg (Nat.ne_of_lt hq)]
  rw [hs]
  rw [hs] at e1
  refine kk p l e R s m args below meth c D B K X H1 locs ls O Hl (HP_push HP hs ?_ o1) (fun _ => by rw [z1, hs, Nat.add_assoc]) (HS_push HS (by omega) o1)
  show H1[B + n]? = some (vp_cell _ _)
  rw [e1, vp_cell_q]
  rfl
end QJDK
