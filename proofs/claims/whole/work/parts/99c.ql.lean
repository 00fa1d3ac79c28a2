/-! THE JUDGEMENT OF THE LAW: as QW, but the script (an array of ints below B) stands at local 0 -/
abbrev mL_law : MD := (RL, yL_law, cL_law, 8, (some .boolean), [])
abbrev SX : Type := Nat × Nat × (Nat → Int32)
def OKL (Z : SX) (M : MD) (d mc ms : Nat) (p : Program) (l : Launch) (R : Room) (s : State) (m : MethodId) (args : Array Value) (meth : Method) (c : Code) (D : va_G) (B : Nat) (K : Nat → ClassId) (X : XT) : Prop :=
  p.tables.exec = Jvm.exec ∧ c.code = M.2.2.1 ∧ meth.sig.returnType = M.2.2.2.2.1 ∧ c.maxLocals = M.2.2.2.1 ∧ s.vm.findClass M.1 = some m.cls ∧ (∀ w ∈ TB, w.before args s = true) ∧ meth.locks = false ∧ (Z.1 < B ∧ B = s.heap.size ∧ R = room_1 ∧ args = #[Value.ref Z.1]) ∧
  (d ≤ R.frames ∧ 40 * d ≤ R.locals ∧ mc ≤ R.cells ∧ ms ≤ R.slots) ∧ Wd l D B K X s ∧ va_X Z.1 Z.2.1 Z.2.2 s s.heap
def QL (Z : SX) (M : MD) (d mc ms : Nat) (F : FT) (k u : Nat) (pc : Nat) (L : List (Option PV)) (S : List PV) (a : Bool) (n : Nat) (h : PH) : Prop :=
  ∀ (p : Program) (l : Launch) (e : Env) (R : Room) (s : State) (m : MethodId) (args : Array Value) (below : List Frame) (meth : Method) (c : Code) (D : va_G) (B : Nat) (K : Nat → ClassId) (X : XT) (H : Heap) (locs : List Loc) (ls : Array Slot),
    OKL Z M d mc ms p l R s m args meth c D B K X → lv_has ls M.2.2.2.1 ((0, .ref Z.1) :: prs B 0 L) → va_P D vwCl (wsO B K n h) H → (a = true → H.size = B + n) → va_S (fun q => B ≤ q) s.heap H locs →
    W p l e R s m args below meth c H locs k u (F l below args s D B K X) (F0 m pc ls (S.map (tv B)))
theorem lh_tl {ls : Array Slot} {nL : Nat} {q0 : Nat × Value} {ps : List (Nat × Value)} (h : lv_has ls nL (q0 :: ps)) : lv_has ls nL ps := ⟨h.1, h.2.1, fun q hq => h.2.2 q (List.mem_cons_of_mem _ hq)⟩
theorem lr_getL {B sc : Nat} {ls : Array Slot} {nL : Nat} {L : List (Option PV)} (h : lv_has ls nL ((0, .ref sc) :: prs B 0 L)) {i : Nat} {v : PV} (hi : L[i]? = some (some v)) : ls[i]? = some (.val (tv B v)) := lr_get (lh_tl h) hi
theorem lr_st1L {B sc : Nat} {ls' : Array Slot} {nL : Nat} {L : List (Option PV)} {i : Nat} {v : PV} (hi : 0 < i) (h : lv_has ls' nL ((i, tv B v) :: ((0, Value.ref sc) :: prs B 0 L).filter (fun q => !(q.1 == i) && !(q.1 + 1 == i && q.2.category == 2)))) : lv_has ls' nL ((0, .ref sc) :: prs B 0 (st1 L i v)) := by
  have h1 : lv_has ls' nL ((i, tv B v) :: (prs B 0 L).filter (fun q => !(q.1 == i) && !(q.1 + 1 == i && q.2.category == 2))) := ⟨h.1, h.2.1, fun q hq => h.2.2 q (by
    rcases List.mem_cons.mp hq with rfl | hq
    · exact List.mem_cons_self
    · exact List.mem_cons_of_mem _ (List.mem_filter.mpr ⟨List.mem_cons_of_mem _ (List.mem_filter.mp hq).1, (List.mem_filter.mp hq).2⟩))⟩
  refine ⟨h.1, h.2.1, fun q hq => ?_⟩
  rcases List.mem_cons.mp hq with rfl | hq
  · refine h.2.2 _ (List.mem_cons_of_mem _ (List.mem_filter.mpr ⟨List.mem_cons_self, ?_⟩))
    have h0 : ¬ 0 = i := by omega
    simp [h0, Value.category]
  · exact (lr_st1 h1).2.2 q hq
theorem lr_st2L {B sc : Nat} {ls' : Array Slot} {nL : Nat} {L : List (Option PV)} {i : Nat} {v : PV} (hi : 0 < i) (h : lv_has ls' nL ((i, tv B v) :: ((0, Value.ref sc) :: prs B 0 L).filter (fun q => !(q.1 == i) && (!(q.1 == i + 1) && !(q.1 + 1 == i && q.2.category == 2))))) : lv_has ls' nL ((0, .ref sc) :: prs B 0 (st2 L i v)) := by
  have h1 : lv_has ls' nL ((i, tv B v) :: (prs B 0 L).filter (fun q => !(q.1 == i) && (!(q.1 == i + 1) && !(q.1 + 1 == i && q.2.category == 2)))) := ⟨h.1, h.2.1, fun q hq => h.2.2 q (by
    rcases List.mem_cons.mp hq with rfl | hq
    · exact List.mem_cons_self
    · exact List.mem_cons_of_mem _ (List.mem_filter.mpr ⟨List.mem_cons_of_mem _ (List.mem_filter.mp hq).1, (List.mem_filter.mp hq).2⟩))⟩
  refine ⟨h.1, h.2.1, fun q hq => ?_⟩
  rcases List.mem_cons.mp hq with rfl | hq
  · refine h.2.2 _ (List.mem_cons_of_mem _ (List.mem_filter.mpr ⟨List.mem_cons_self, ?_⟩))
    have h0 : ¬ 0 = i := by omega
    simp [h0, Value.category]
  · exact (lr_st2 h1).2.2 q hq
section QLRULES
variable {Z : SX} {M : MD} {d mc ms : Nat} {F : FT} {k u pc pc' : Nat} {L : List (Option PV)} {S S0 : List PV} {a : Bool} {n : Nat} {h : PH}
theorem ql_iconst {z : Int} (hdg : decode M.2.2.1 pc = .ok (.iconst z, 1)) (hq : pc + 1 = pc') (kk : QL Z M d mc ms F k u pc' L (vI z :: S) a n h) : QL Z M d mc ms F k u pc L (S) a n h := by
  subst hq
  intro p l e R s m args below meth c D B K X H locs ls O Hl HP Hs HS
  exact lv_iconst O.1 O.2.1 hdg rfl (kk p l e R s m args below meth c D B K X H locs ls O Hl HP Hs HS)
theorem ql_bipush {z : Int} (hdg : decode M.2.2.1 pc = .ok (.bipush z, 2)) (hz : (Int8.ofInt z).toInt32 = Int32.ofInt z) (hq : pc + 2 = pc') (kk : QL Z M d mc ms F k u pc' L (vI z :: S) a n h) : QL Z M d mc ms F k u pc L (S) a n h := by
  subst hq
  intro p l e R s m args below meth c D B K X H locs ls O Hl HP Hs HS
  exact lv_bipush O.1 O.2.1 hdg hz (kk p l e R s m args below meth c D B K X H locs ls O Hl HP Hs HS)
theorem ql_iload {i : Nat} {x : Int} (hdg : decode M.2.2.1 pc = .ok (.iload i, 2)) (hl : L[i]? = some (some (vI x))) (hq : pc + 2 = pc') (kk : QL Z M d mc ms F k u pc' L (vI x :: S) a n h) : QL Z M d mc ms F k u pc L (S) a n h := by
  subst hq
  intro p l e R s m args below meth c D B K X H locs ls O Hl HP Hs HS
  exact lv_iload O.1 O.2.1 hdg (lr_getL Hl hl) (kk p l e R s m args below meth c D B K X H locs ls O Hl HP Hs HS)
theorem ql_lload {i : Nat} {x : Int} (hdg : decode M.2.2.1 pc = .ok (.lload i, 2)) (hl : L[i]? = some (some (vJ x))) (hq : pc + 2 = pc') (kk : QL Z M d mc ms F k u pc' L (vJ x :: S) a n h) : QL Z M d mc ms F k u pc L (S) a n h := by
  subst hq
  intro p l e R s m args below meth c D B K X H locs ls O Hl HP Hs HS
  exact lv_lload O.1 O.2.1 hdg (lr_getL Hl hl) (kk p l e R s m args below meth c D B K X H locs ls O Hl HP Hs HS)
theorem ql_istore {i : Nat} {x : Int} {L' : List (Option PV)} (h0 : 0 < i) (hdg : decode M.2.2.1 pc = .ok (.istore i, 2)) (hi : i < M.2.2.2.1) (hl : st1 L i (vI x) = L') (hq : pc + 2 = pc') (kk : QL Z M d mc ms F k u pc' L' (S) a n h) : QL Z M d mc ms F k u pc L (vI x :: S) a n h := by
  subst hq
  intro p l e R s m args below meth c D B K X H locs ls O Hl HP Hs HS
  subst hl
  exact lv_istore O.1 O.2.1 hdg Hl hi rfl (fun ls' h' => kk p l e R s m args below meth c D B K X H locs ls' O (lr_st1L h0 h') HP Hs HS)
theorem ql_lstore {i : Nat} {x : Int} {L' : List (Option PV)} (h0 : 0 < i) (hdg : decode M.2.2.1 pc = .ok (.lstore i, 2)) (hi : i + 1 < M.2.2.2.1) (hl : st2 L i (vJ x) = L') (hq : pc + 2 = pc') (kk : QL Z M d mc ms F k u pc' L' (S) a n h) : QL Z M d mc ms F k u pc L (vJ x :: S) a n h := by
  subst hq
  intro p l e R s m args below meth c D B K X H locs ls O Hl HP Hs HS
  subst hl
  exact lv_lstore O.1 O.2.1 hdg Hl hi rfl (fun ls' h' => kk p l e R s m args below meth c D B K X H locs ls' O (lr_st2L h0 h') HP Hs HS)
theorem ql_aload_n {i : Fin 4} {x : Nat} (hdg : decode M.2.2.1 pc = .ok (.aload_n i, 1)) (hl : L[(i : Nat)]? = some (some (vR x))) (hq : pc + 1 = pc') (kk : QL Z M d mc ms F k u pc' L (vR x :: S) a n h) : QL Z M d mc ms F k u pc L (S) a n h := by
  subst hq
  intro p l e R s m args below meth c D B K X H locs ls O Hl HP Hs HS
  exact lv_aload_n O.1 O.2.1 hdg rfl (lr_getL Hl hl) (kk p l e R s m args below meth c D B K X H locs ls O Hl HP Hs HS)
theorem ql_astore_n {i : Fin 4} {x : Nat} {L' : List (Option PV)} (h0 : 0 < (i : Nat)) (hdg : decode M.2.2.1 pc = .ok (.astore_n i, 1)) (hi : (i : Nat) < M.2.2.2.1) (hl : st1 L (i : Nat) (vR x) = L') (hq : pc + 1 = pc') (kk : QL Z M d mc ms F k u pc' L' (S) a n h) : QL Z M d mc ms F k u pc L (vR x :: S) a n h := by
  subst hq
  intro p l e R s m args below meth c D B K X H locs ls O Hl HP Hs HS
  subst hl
  exact lv_astore_n O.1 O.2.1 hdg rfl Hl hi rfl (fun ls' h' => kk p l e R s m args below meth c D B K X H locs ls' O (lr_st1L h0 h') HP Hs HS)
theorem ql_iinc {i : Nat} {x z : Int} {L' : List (Option PV)} (h0 : 0 < i) (hdg : decode M.2.2.1 pc = .ok (.iinc i z, 3)) (hi : i < M.2.2.2.1) (hx : L[i]? = some (some (vI x))) (hl : st1 L i (vI (x + z)) = L') (hq : pc + 3 = pc') (kk : QL Z M d mc ms F k u pc' L' (S) a n h) : QL Z M d mc ms F k u pc L (S) a n h := by
  subst hq
  subst hl
  intro p l e R s m args below meth c D B K X H locs ls O Hl HP Hs HS
  obtain ⟨j, hj⟩ := List.getElem?_of_mem (List.mem_cons_of_mem _ (mem_prs.mpr ⟨i, vI x, hx, by rw [Nat.zero_add]⟩) : (i, tv B (vI x)) ∈ (0, Value.ref Z.1) :: prs B 0 L)
  exact lv_iinc O.1 O.2.1 hdg Hl (k := j) hj (v := Int32.ofInt (x + z)) (by rw [Int32.ofInt_add]) hi rfl (fun ls' h' => kk p l e R s m args below meth c D B K X H locs ls' O (lr_st1L h0 h') HP Hs HS)
theorem ql_iadd {x y : Int} (hdg : decode M.2.2.1 pc = .ok (.iadd, 1)) (hq : pc + 1 = pc') (kk : QL Z M d mc ms F k u pc' L (vI (x + y) :: S) a n h) : QL Z M d mc ms F k u pc L (vI y :: vI x :: S) a n h := by
  subst hq
  intro p l e R s m args below meth c D B K X H locs ls O Hl HP Hs HS
  refine lv_iadd O.1 O.2.1 hdg ?_
  rw [← Int32.ofInt_add]
  exact kk p l e R s m args below meth c D B K X H locs ls O Hl HP Hs HS
theorem ql_isub {x y : Int} (hdg : decode M.2.2.1 pc = .ok (.isub, 1)) (hq : pc + 1 = pc') (kk : QL Z M d mc ms F k u pc' L (vI (x - y) :: S) a n h) : QL Z M d mc ms F k u pc L (vI y :: vI x :: S) a n h := by
  subst hq
  intro p l e R s m args below meth c D B K X H locs ls O Hl HP Hs HS
  refine lv_isub O.1 O.2.1 hdg ?_
  rw [← Int32.ofInt_sub]
  exact kk p l e R s m args below meth c D B K X H locs ls O Hl HP Hs HS
theorem ql_dup {v : PV} (hv : ∀ B, (tv B v).category = 1) (hdg : decode M.2.2.1 pc = .ok (.dup, 1)) (hq : pc + 1 = pc') (kk : QL Z M d mc ms F k u pc' L (v :: v :: S) a n h) : QL Z M d mc ms F k u pc L (v :: S) a n h := by
  subst hq
  intro p l e R s m args below meth c D B K X H locs ls O Hl HP Hs HS
  exact lv_dup O.1 O.2.1 hdg (hv B) (kk p l e R s m args below meth c D B K X H locs ls O Hl HP Hs HS)
theorem ql_icmp_gt {x y : Int} {off : Int} {tgt : Nat} (hdg : decode M.2.2.1 pc = .ok (.if_icmp .gt off, 3)) (ht : (pc : Int) + off = (tgt : Int)) (hq : pc + 3 = pc') (hx : IR x) (hy : IR y) (kt : y < x → QL Z M d mc ms F k u tgt L (S) a n h) (kf : ¬ y < x → QL Z M d mc ms F k u pc' L (S) a n h) : QL Z M d mc ms F k u pc L (vI y :: vI x :: S) a n h := by
  subst hq
  intro p l e R s m args below meth c D B K X H locs ls O Hl HP Hs HS
  exact lv_icmp_gt O.1 O.2.1 hdg ht (fun z => kt ((o32_lt hy hx).mp z) p l e R s m args below meth c D B K X H locs ls O Hl HP Hs HS) (fun z => kf (fun q => z ((o32_lt hy hx).mpr q)) p l e R s m args below meth c D B K X H locs ls O Hl HP Hs HS)
theorem ql_if_eq {x : Int} {off : Int} {tgt : Nat} (hdg : decode M.2.2.1 pc = .ok (.ifCond .eq off, 3)) (ht : (pc : Int) + off = (tgt : Int)) (hq : pc + 3 = pc') (hx : IR x) (kt : x = 0 → QL Z M d mc ms F k u tgt L (S) a n h) (kf : ¬ x = 0 → QL Z M d mc ms F k u pc' L (S) a n h) : QL Z M d mc ms F k u pc L (vI x :: S) a n h := by
  subst hq
  intro p l e R s m args below meth c D B K X H locs ls O Hl HP Hs HS
  exact lv_if_eq O.1 O.2.1 hdg ht (fun z => kt ((o32_eq0 hx).mp z) p l e R s m args below meth c D B K X H locs ls O Hl HP Hs HS) (fun z => kf (fun q => z ((o32_eq0 hx).mpr q)) p l e R s m args below meth c D B K X H locs ls O Hl HP Hs HS)
theorem ql_if_ne {x : Int} {off : Int} {tgt : Nat} (hdg : decode M.2.2.1 pc = .ok (.ifCond .ne off, 3)) (ht : (pc : Int) + off = (tgt : Int)) (hq : pc + 3 = pc') (hx : IR x) (kt : x ≠ 0 → QL Z M d mc ms F k u tgt L (S) a n h) (kf : ¬ (x ≠ 0) → QL Z M d mc ms F k u pc' L (S) a n h) : QL Z M d mc ms F k u pc L (vI x :: S) a n h := by
  subst hq
  intro p l e R s m args below meth c D B K X H locs ls O Hl HP Hs HS
  exact lv_if_ne O.1 O.2.1 hdg ht (fun z => kt (fun q => z ((o32_eq0 hx).mpr q)) p l e R s m args below meth c D B K X H locs ls O Hl HP Hs HS) (fun z => kf (fun q => q ((o32_eq0 hx).mp z)) p l e R s m args below meth c D B K X H locs ls O Hl HP Hs HS)
theorem ql_goto {off : Int} {tgt : Nat} (hdg : decode M.2.2.1 pc = .ok (.goto off, 3)) (ht : (pc : Int) + off = (tgt : Int)) (kk : QL Z M d mc ms F k u tgt L (S) a n h) : QL Z M d mc ms F k u pc L (S) a n h := by
  intro p l e R s m args below meth c D B K X H locs ls O Hl HP Hs HS
  exact lv_goto O.1 O.2.1 hdg ht (kk p l e R s m args below meth c D B K X H locs ls O Hl HP Hs HS)
theorem ql_tableIn {dflt lo hi : Int} {offs : Array Int} {len : Nat} {x : Int} {off : Int} {tgt : Nat} (hdg : decode M.2.2.1 pc = .ok (.tableswitch dflt lo hi offs, len)) (hx : IR x) (h1 : lo ≤ x) (h2 : x ≤ hi) (ho : offs[(x - lo).toNat]? = some off) (ht : (pc : Int) + off = (tgt : Int)) (kk : QL Z M d mc ms F k u tgt L (S) a n h) : QL Z M d mc ms F k u pc L (vI x :: S) a n h := by
  intro p l e R s m args below meth c D B K X H locs ls O Hl HP Hs HS
  exact lv_tableIn O.1 O.2.1 hdg (by rw [o32_toInt hx]; omega) (by rw [o32_toInt hx]; omega) (by rw [o32_toInt hx]; exact ho) ht (kk p l e R s m args below meth c D B K X H locs ls O Hl HP Hs HS)
theorem ql_tableOut {dflt lo hi : Int} {offs : Array Int} {len : Nat} {x : Int} {tgt : Nat} (hdg : decode M.2.2.1 pc = .ok (.tableswitch dflt lo hi offs, len)) (hx : IR x) (h1 : x < lo ∨ hi < x) (ht : (pc : Int) + dflt = (tgt : Int)) (kk : QL Z M d mc ms F k u tgt L (S) a n h) : QL Z M d mc ms F k u pc L (vI x :: S) a n h := by
  intro p l e R s m args below meth c D B K X H locs ls O Hl HP Hs HS
  exact lv_tableOut O.1 O.2.1 hdg (by rw [o32_toInt hx]; exact h1) ht (kk p l e R s m args below meth c D B K X H locs ls O Hl HP Hs HS)
theorem ql_lald {o N : Nat} {x : Int} {f : Nat → Int} {cs : List PC} (hdg : decode M.2.2.1 pc = .ok (.laload, 1)) (hB : Blk n h o cs) (j : Nat) (hj : cs[j]? = some (cJ N f)) (i : Nat) (hx : x = (i : Int)) (hi : i < N) (hM : i ≤ 2147483647) (hq : pc + 1 = pc') (kk : QL Z M d mc ms F k u pc' L (vJ (f i) :: S) a n h) : QL Z M d mc ms F k u pc L (vI x :: vR (o + j) :: S) a n h := by
  subst hq
  intro p l e R s m args below meth c D B K X H locs ls O Hl HP Hs HS
  obtain ⟨h1, h2⟩ := o32_idx hx hi hM
  refine va_lald O.1 O.2.1 O.2.2.2.2.2.2.2.2.2.1.1 HP (o + j) 1 (hB.ws hj B K) rfl h1 hdg ?_
  rw [h2]
  exact kk p l e R s m args below meth c D B K X H locs ls O Hl HP Hs HS
theorem ql_callV {M' : MD} {i d' mc' ms' nA o ci : Nat} {As : List PV} {fs : List PV} {cs : List PC} {post : Option PV → Nat → PH → Prop} (hL : CVk M.1 i M' nA) (hdg : decode M.2.2.1 pc = .ok (.invokevirtual i, 3)) (hB : Blk n h o cs) (j : Nat) (hj : cs[j]? = some (cO ci fs)) (hci : (vwCl[ci]?).map (fun q => q.1) = some M'.2.1.cls)
    (hC : Ctr M' d' mc' ms' a (vR (o + j) :: As) n h post) (hd : d' + 1 ≤ d) (hkc : k + mc' ≤ mc) (huc : u + ms' ≤ ms) (hn : As.length = nA) (hl : (ent (vR (o + j) :: As)).length ≤ M'.2.2.2.1) (hst : S0 = As.reverse ++ vR (o + j) :: S) (hsum : catS S ≤ 8) (hq : pc + 3 = pc')
    (kk : ∀ (r : Option PV) (n' : Nat) (h' : PH), post r n' h' → QL Z M d mc ms F (k + mc') (u + ms') pc' L (r.toList ++ S) a n' h') : QL Z M d mc ms F k u pc L S0 a n h := by
  subst hq
  subst hst
  intro p l e R s m args below meth c D B K X H locs ls O Hl HP Hs HS
  obtain ⟨hM, hdesc, hlk, hins, hsel⟩ := hL
  obtain ⟨hx, hb, hr, hml, hown, hts, hlocks, hname, ⟨r1, r2, r3, r4⟩, hWd, htab⟩ := id O
  obtain ⟨q, hq, hqn⟩ : ∃ q, vwCl[ci]? = some q ∧ q.1 = M'.2.1.cls := by
    cases hz : vwCl[ci]? with
    | none => rw [hz] at hci; cases hci
    | some q => rw [hz] at hci; exact ⟨q, rfl, Option.some.inj hci⟩
  have hrecv := va_recv hWd.1 HP hq (hB.ws hj B K)
  rw [hqn] at hrecv
  have hcb := callB_of (bytes := M'.2.2.1) (maxL := M'.2.2.2.1) (ret := M'.2.2.2.2.1) (rm := rmD d' mc' ms') (mc := mc') (ms := ms') (R := R) nA hts (wsM_good hM) rfl rfl rfl (hts _ hM.2.2.2.2.2.1) (hts _ hlk) ⟨hM.2.2.2.2.2.2.1, hM.2.2.2.2.2.2.2, hdesc⟩ (q_fit hM r1 r2 hd)
  refine q_back (va_runV (C := M'.2.1.cls) (As := As.map (tv B)) (rest := S.map (tv B)) ⟨hx, hb, hml, hown, hts⟩ (Met_of hM hC hl l D B K X) ⟨hcb, hts _ hins, hts _ hsel⟩ ⟨Pc_blind, hrecv, fun U hU hW => ⟨rfl, Pc_at hWd HP Hs HS U hU hW⟩⟩ rfl (by rw [List.length_map]; exact hn) Hl.1 (by simp only [List.map_append, List.map_reverse, List.map_cons, F0]; rfl) (lv_room (by rw [catS_eq]; exact hsum)) hdg ⟨Nat.le_trans hkc r3, Nat.le_trans huc r4⟩) HS ?_
  intro r n' h' H1 locs1 hp hP1 hs1 hS1
  have := kk r n' h' hp p l e R s m args below meth c D B K X H1 locs1 ls O Hl hP1 hs1 hS1
  rw [List.map_append] at this
  cases r <;> exact this
theorem ql_callI {M' : MD} {i d' mc' ms' o : Nat} {post : Option PV → Nat → PH → Prop} (hL : CIk M.1 i M') (hdg : decode M.2.2.1 pc = .ok (.invokespecial i, 3))
    (hC : Ctr M' d' mc' ms' a [vR o] n h post) (hd : d' + 1 ≤ d) (hkc : k + mc' ≤ mc) (huc : u + ms' ≤ ms) (hl : 1 ≤ M'.2.2.2.1) (hsum : catS S ≤ 8) (hq : pc + 3 = pc')
    (kk : ∀ (r : Option PV) (n' : Nat) (h' : PH), post r n' h' → QL Z M d mc ms F (k + mc') (u + ms') pc' L (r.toList ++ S) a n' h') : QL Z M d mc ms F k u pc L (vR o :: S) a n h := by
  subst hq
  intro p l e R s m args below meth c D B K X H locs ls O Hl HP Hs HS
  obtain ⟨hM, hdesc, hlk, hins, hnm, hret⟩ := hL
  obtain ⟨hx, hb, hr, hml, hown, hts, hlocks, hname, ⟨r1, r2, r3, r4⟩, hWd, htab⟩ := id O
  have hcb := callB_of (bytes := M'.2.2.1) (maxL := M'.2.2.2.1) (ret := M'.2.2.2.2.1) (rm := rmD d' mc' ms') (mc := mc') (ms := ms') (R := R) 0 hts (wsM_good hM) rfl rfl rfl (hts _ hM.2.2.2.2.2.1) (hts _ hlk) ⟨hM.2.2.2.2.2.2.1, hM.2.2.2.2.2.2.2, hdesc⟩ (q_fit hM r1 r2 hd)
  rw [hret] at hcb
  refine q_back (va_runI (As := []) (rest := S.map (tv B)) ⟨hx, hb, hml, hown, hts⟩ (Met_of hM hC hl l D B K X) ⟨hcb, hnm, hts _ hins⟩ ⟨Pc_blind, fun U hU hW => ⟨rfl, Pc_at hWd HP Hs HS U hU hW⟩⟩ rfl rfl Hl.1 rfl (lv_room (by rw [catS_eq]; exact hsum)) hdg ⟨Nat.le_trans hkc r3, Nat.le_trans huc r4⟩) HS ?_
  intro r n' h' H1 locs1 hp hP1 hs1 hS1
  have := kk r n' h' hp p l e R s m args below meth c D B K X H1 locs1 ls O Hl hP1 hs1 hS1
  rw [List.map_append] at this
  cases r <;> exact this
theorem ql_new {i ci : Nat} {fs : List PV} (hN : NWk M.1 i ci fs) (hdg : decode M.2.2.1 pc = .ok (.new i, 3)) (hkc : k + 1 ≤ mc) (huc : u + fs.length ≤ ms) (hq : pc + 3 = pc') (kk : QL Z M d mc ms F (k + 1) (u + fs.length) pc' L (vR n :: S) true (n + 1) (hp h n (cO ci fs))) : QL Z M d mc ms F k u pc L S true n h := by
  subst hq
  intro p l e R s m args below meth c D B K X H locs ls O Hl HP Hs HS
  obtain ⟨hx', hb, hr, hml, hown, hts, hlocks, hname, ⟨r1, r2, r3, r4⟩, hWd, htab⟩ := id O
  obtain ⟨C, T, N, ty0, hc, hlen, hin, hcl, hins, hini, hty, hdf⟩ := hN
  subst hlen
  have hKn := hWd.1.1 ci _ hc
  have hs := Hs rfl
  refine W.newcK hx' hb hown (hts _ hcl) (hts _ hins) (hts _ hini) rfl hdg (by omega) (by omega) hKn.2.1 hs fun H1 kC hkC e1 z1 o1 => ?_
  rw [← hs] at o1
  exact kk p l e R s m args below meth c D B K X H1 locs ls O Hl (HP_push HP hs ⟨_, hc, (u_born ty0 hts hin hKn hkC e1 hty).to (hdf B)⟩ o1) (fun _ => by rw [z1, Nat.add_assoc]) (HS_push HS (by omega) o1)
theorem ql_newJ {x : Int} (N : Nat) (hx : x = (N : Int)) (hw : Cond.arrayClass .long ∈ TB) (hdg : decode M.2.2.1 pc = .ok (.newarray .long, 2)) (hb : N ≤ 50000000) (hkc : k + 1 ≤ mc) (huc : u + N ≤ ms) (hq : pc + 2 = pc') (kk : QL Z M d mc ms F (k + 1) (u + N) pc' L (vR n :: S) true (n + 1) (hp h n (cJ N (fun _ => 0)))) : QL Z M d mc ms F k u pc L (vI x :: S) true n h := by
  subst hq
  subst hx
  intro p l e R s m args below meth c D B K X H locs ls O Hl HP Hs HS
  obtain ⟨hx', hb', hr, hml, hown, hts, hlocks, hname, ⟨r1, r2, r3, r4⟩, hWd, htab⟩ := id O
  have hs := Hs rfl
  refine va_newaK (atype := .long) hx' hb' (hts _ hw) rfl hdg rfl (fun z => by have := (o32_lt0 (by omega)).mp z; omega) (by rw [o32_nat (by omega)]; rfl : _ = N) (by show N * 8 ≤ _; omega) (by omega) (by omega) hs fun H1 cA e1 z1 o1 hAr hNm => ?_
  have hcA : cA = K 1 := Option.some.inj (hNm.symm.trans (hWd.1.2 1 _ rfl).2)
  subst hcA
  rw [← hs] at o1
  refine kk p l e R s m args below meth c D B K X H1 locs ls O Hl (HP_push HP hs ?_ o1) (fun _ => by rw [z1, Nat.add_assoc]) (HS_push HS (by omega) o1)
  show H1[B + n]? = some (vp_cell _ _)
  rw [e1, vp_cell_l]
  have : (defaultValue (newarray.typeOf .long)) = Value.long (Int64.ofInt 0) := by decide +kernel
  rw [this]
theorem ql_weak {L1 : List (Option PV)} (kk : QL Z M d mc ms F k u pc L1 S a n h) (hL : ∀ B q, q ∈ prs B 0 L1 → q ∈ prs B 0 L) : QL Z M d mc ms F k u pc L S a n h := by
  intro p l e R s m args below meth c D B K X H locs ls O Hl HP Hs HS
  refine kk p l e R s m args below meth c D B K X H locs ls O ⟨Hl.1, Hl.2.1, fun q hq => Hl.2.2 q ?_⟩ HP Hs HS
  rcases List.mem_cons.mp hq with rfl | hq
  · exact List.mem_cons_self
  · exact List.mem_cons_of_mem _ (hL B q hq)
theorem ql_open (kk : QL Z M d mc ms F k u pc L S false n h) : QL Z M d mc ms F k u pc L S a n h := by
  intro p l e R s m args below meth c D B K X H locs ls O Hl HP Hs HS
  exact kk p l e R s m args below meth c D B K X H locs ls O Hl HP (fun z => by cases z) HS
/-- the number that an int holds -/
def nrI (z : Int) : Int := (Int32.ofInt z).toInt
theorem nrI_long (z : Int) : (Int32.ofInt z).toInt64 = Int64.ofInt (nrI z) := by rw [← Int64.ofInt_int32ToInt]; rfl
theorem ql_i2l {x : Int} (hdg : decode M.2.2.1 pc = .ok (.i2l, 1)) (hq : pc + 1 = pc') (kk : QL Z M d mc ms F k u pc' L (vJ (nrI x) :: S) a n h) : QL Z M d mc ms F k u pc L (vI x :: S) a n h := by
  subst hq
  intro p l e R s m args below meth c D B K X H locs ls O Hl HP Hs HS
  exact lv_i2l O.1 O.2.1 hdg (nrI_long x) (kk p l e R s m args below meth c D B K X H locs ls O Hl HP Hs HS)
theorem q_i2ln {x : Int} (hdg : decode M.2.2.1 pc = .ok (.i2l, 1)) (hq : pc + 1 = pc') (kk : QW M d mc ms F k u pc' L (vJ (nrI x) :: S) a n h) : QW M d mc ms F k u pc L (vI x :: S) a n h := by
  subst hq
  intro p l e R s m args below meth c D B K X H locs ls O Hl HP Hs HS
  exact lv_i2l O.1 O.2.1 hdg (nrI_long x) (kk p l e R s m args below meth c D B K X H locs ls O Hl HP Hs HS)
theorem lg_cmp_self (x : Int64) : lg_cmp x x = Int32.ofInt 0 := by
  unfold lg_cmp
  rw [if_neg (Int64.lt_irrefl), if_pos rfl]
  decide +kernel
/-- one and the same long is compared: no range is wanted -/
theorem ql_lcmp1 {x y : Int} (hxy : x = y) (hdg : decode M.2.2.1 pc = .ok (.lcmp, 1)) (hq : pc + 1 = pc') (kk : QL Z M d mc ms F k u pc' L (vI 0 :: S) a n h) : QL Z M d mc ms F k u pc L (vJ y :: vJ x :: S) a n h := by
  subst hq
  subst hxy
  intro p l e R s m args below meth c D B K X H locs ls O Hl HP Hs HS
  refine W.lcmp O.1 O.2.1 hdg ?_
  rw [lg_cmp_self]
  exact kk p l e R s m args below meth c D B K X H locs ls O Hl HP Hs HS
theorem ql_icmp1 {x y : Int} {off : Int} {tgt : Nat} (hxy : x = y) (hdg : decode M.2.2.1 pc = .ok (.if_icmp .eq off, 3)) (ht : (pc : Int) + off = (tgt : Int)) (kt : QL Z M d mc ms F k u tgt L (S) a n h) : QL Z M d mc ms F k u pc L (vI y :: vI x :: S) a n h := by
  subst hxy
  intro p l e R s m args below meth c D B K X H locs ls O Hl HP Hs HS
  exact lv_icmp_eq O.1 O.2.1 hdg ht (fun _ => kt p l e R s m args below meth c D B K X H locs ls O Hl HP Hs HS) (fun z => absurd rfl z)
/-- the number of the script's place i -/
def scI (Z : SX) (i : Nat) : Int := (Z.2.2 i).toInt
theorem scI_ir (Z : SX) (i : Nat) : IR (scI Z i) := by
  have h1 := Int32.le_toInt (Z.2.2 i)
  have h2 := Int32.toInt_le (Z.2.2 i)
  have h3 : Int32.maxValue.toInt = 2147483647 := by decide +kernel
  have h4 : Int32.minValue.toInt = -2147483648 := by decide +kernel
  unfold scI IR
  constructor
  · omega
  · omega
theorem scI_of (Z : SX) (i : Nat) : Int32.ofInt (scI Z i) = Z.2.2 i := Int32.ofInt_toInt _
/-- script[i], with the index on the stack -/
theorem ql_scr {x : Int} (i : Nat) (hx : x = (i : Int)) (hi : i < Z.2.1) (hM : Z.2.1 ≤ 4000) (hdg : decode M.2.2.1 pc = .ok (.iaload, 1)) (hq : pc + 1 = pc') (kk : QL Z M d mc ms F k u pc' L (vI (scI Z i) :: S) a n h) :
    ∀ (p : Program) (l : Launch) (e : Env) (R : Room) (s : State) (m : MethodId) (args : Array Value) (below : List Frame) (meth : Method) (c : Code) (D : va_G) (B : Nat) (K : Nat → ClassId) (X : XT) (H : Heap) (locs : List Loc) (ls : Array Slot),
    OKL Z M d mc ms p l R s m args meth c D B K X → lv_has ls M.2.2.2.1 ((0, .ref Z.1) :: prs B 0 L) → va_P D vwCl (wsO B K n h) H → (a = true → H.size = B + n) → va_S (fun q => B ≤ q) s.heap H locs →
    W p l e R s m args below meth c H locs k u (F l below args s D B K X) (F0 m pc ls (.int (Int32.ofInt x) :: .ref Z.1 :: S.map (tv B))) := by
  subst hq
  subst hx
  intro p l e R s m args below meth c D B K X H locs ls O Hl HP Hs HS
  refine va_sld O.1 O.2.1 O.2.2.2.2.2.2.2.2.2.2 (by have := O.2.2.2.2.2.2.2.1.1; have := O.2.2.2.2.2.2.2.1.2.1; omega) (by have := O.2.2.2.2.2.2.2.1.1; omega) HS (o32_in (by omega) (by omega) (by omega)) hdg ?_
  rw [o32_nat (by omega), Int.toNat_natCast, ← scI_of Z i]
  exact kk p l e R s m args below meth c D B K X H locs ls O Hl HP Hs HS
/-- aload_0, iload 4, iconst j, iadd, iaload -/
theorem ql_arg {i j : Nat} (hl : L[4]? = some (some (vI (i : Int)))) (hi : i + j < Z.2.1) (hM : Z.2.1 ≤ 4000) (d0 : decode M.2.2.1 pc = .ok (.aload_n 0, 1)) (d1 : decode M.2.2.1 (pc + 1) = .ok (.iload 4, 2)) (d2 : decode M.2.2.1 (pc + 3) = .ok (.iconst (j : Int), 1)) (d3 : decode M.2.2.1 (pc + 4) = .ok (.iadd, 1)) (d4 : decode M.2.2.1 (pc + 5) = .ok (.iaload, 1)) (hq : pc + 6 = pc') (kk : QL Z M d mc ms F k u pc' L (vI (scI Z (i + j)) :: S) a n h) : QL Z M d mc ms F k u pc L S a n h := by
  intro p l e R s m args below meth c D B K X H locs ls O Hl HP Hs HS
  refine lv_aload_n O.1 O.2.1 d0 rfl (Hl.2.2 _ List.mem_cons_self) ?_
  refine lv_iload O.1 O.2.1 d1 (lr_getL Hl hl) ?_
  refine lv_iconst O.1 O.2.1 d2 rfl ?_
  refine lv_iadd O.1 O.2.1 d3 ?_
  rw [← Int32.ofInt_add]
  exact ql_scr (pc := pc + 5) (i + j) (by omega) hi hM d4 hq kk p l e R s m args below meth c D B K X H locs ls O Hl HP Hs HS
/-- aload_0, iload 4, iaload, bipush 31, iand -/
theorem ql_op {i : Nat} (hl : L[4]? = some (some (vI (i : Int)))) (hi : i < Z.2.1) (hM : Z.2.1 ≤ 4000) (d0 : decode M.2.2.1 pc = .ok (.aload_n 0, 1)) (d1 : decode M.2.2.1 (pc + 1) = .ok (.iload 4, 2)) (d2 : decode M.2.2.1 (pc + 3) = .ok (.iaload, 1)) (d3 : decode M.2.2.1 (pc + 4) = .ok (.bipush 31, 2)) (d4 : decode M.2.2.1 (pc + 6) = .ok (.iand, 1)) (hq : pc + 7 = pc') (kk : ∀ z : Nat, z < 32 → QL Z M d mc ms F k u pc' L (vI (z : Int) :: S) a n h) : QL Z M d mc ms F k u pc L S a n h := by
  subst hq
  intro p l e R s m args below meth c D B K X H locs ls O Hl HP Hs HS
  refine lv_aload_n O.1 O.2.1 d0 rfl (Hl.2.2 _ List.mem_cons_self) ?_
  refine lv_iload O.1 O.2.1 d1 (lr_getL Hl hl) ?_
  refine va_sld O.1 O.2.1 O.2.2.2.2.2.2.2.2.2.2 (by have := O.2.2.2.2.2.2.2.1.1; have := O.2.2.2.2.2.2.2.1.2.1; omega) (by have := O.2.2.2.2.2.2.2.1.1; omega) HS (o32_in (by omega) (by omega) (by omega)) d2 ?_
  refine lv_bipush O.1 O.2.1 d3 (show (Int8.ofInt 31).toInt32 = Int32.ofInt 31 by decide +kernel) ?_
  refine lv_iand O.1 O.2.1 d4 ?_
  have key : ∀ w : Int32, ∃ z : Nat, z < 32 ∧ w &&& Int32.ofInt 31 = Int32.ofInt (z : Int) := fun w => by
    refine ⟨(w.toBitVec &&& 31#32).toNat, ?_, ?_⟩
    · rw [BitVec.toNat_and]
      have : w.toBitVec.toNat &&& (31#32).toNat ≤ (31#32).toNat := Nat.and_le_right
      have h31 : (31#32).toNat = 31 := by decide
      omega
    · apply Int32.toBitVec.inj
      have h31 : (Int32.ofInt 31).toBitVec = 31#32 := by decide +kernel
      rw [Int32.toBitVec_and, h31, o32_bv (x := ((w.toBitVec &&& 31#32).toNat : Int)) (by omega), Int.toNat_natCast, BitVec.ofNat_toNat, BitVec.setWidth_eq]
  obtain ⟨z, hz, ez⟩ := key (Z.2.2 (Int32.ofInt (i : Int)).toNatClampNeg)
  rw [ez]
  exact kk z hz p l e R s m args below meth c D B K X H locs ls O Hl HP Hs HS
/-- aload_0, arraylength -/
theorem ql_len (d0 : decode M.2.2.1 pc = .ok (.aload_n 0, 1)) (d1 : decode M.2.2.1 (pc + 1) = .ok (.arraylength, 1)) (hq : pc + 2 = pc') (kk : QL Z M d mc ms F k u pc' L (vI (Z.2.1 : Int) :: S) a n h) : QL Z M d mc ms F k u pc L S a n h := by
  subst hq
  intro p l e R s m args below meth c D B K X H locs ls O Hl HP Hs HS
  refine lv_aload_n O.1 O.2.1 d0 rfl (Hl.2.2 _ List.mem_cons_self) ?_
  refine va_slen O.1 O.2.1 O.2.2.2.2.2.2.2.2.2.2 (by have := O.2.2.2.2.2.2.2.1.1; have := O.2.2.2.2.2.2.2.1.2.1; omega) (by have := O.2.2.2.2.2.2.2.1.1; omega) HS d1 ?_
  rw [← o32_ofNat]
  exact kk p l e R s m args below meth c D B K X H locs ls O Hl HP Hs HS
theorem rl_lald {o N : Nat} {x : Int} {f : Nat → Int} (hdg : decode M.2.2.1 pc = .ok (.laload, 1)) (hA : At1 n h o (cJ N f)) (i : Nat) (hx : x = (i : Int)) (hi : i < N) (hM : N ≤ 2147483647) (hq : pc + 1 = pc') (kk : QL Z M d mc ms F k u pc' L (vJ (f i) :: S) a n h) : QL Z M d mc ms F k u pc L (vI x :: vR o :: S) a n h := ql_lald hdg hA.blk 0 rfl i hx hi (by omega) hq kk
theorem rl_cVI {M' : MD} {i d' nA o ci : Nat} {As : List PV} {fs : List PV} {post : Int → PH → Prop} (hL : CVk M.1 i M' nA) (hdg : decode M.2.2.1 pc = .ok (.invokevirtual i, 3)) (hA : At1 n h o (cO ci fs)) (hci : (vwCl[ci]?).map (fun q => q.1) = some M'.2.1.cls) (hC : CtrI M' d' (vR o :: As) n h post) (hd : d' + 1 ≤ d) (hkc : k ≤ mc) (huc : u ≤ ms) (hn : As.length = nA) (hl : (ent (vR o :: As)).length ≤ M'.2.2.2.1) (hst : S0 = As.reverse ++ vR o :: S) (hsum : catS S ≤ 8) (hq : pc + 3 = pc') (kk : ∀ (x : Int) (h' : PH), post x h' → QL Z M d mc ms F k u pc' L (vI x :: S) false n h') : QL Z M d mc ms F k u pc L S0 false n h :=
  ql_callV hL hdg hA.blk 0 rfl hci hC hd hkc huc hn hl hst hsum hq (fun r n' h' hp => by obtain ⟨x, rfl, rfl, hp⟩ := hp; exact kk x h' hp)
theorem rl_cVJ {M' : MD} {i d' nA o ci : Nat} {As : List PV} {fs : List PV} {post : Int → PH → Prop} (hL : CVk M.1 i M' nA) (hdg : decode M.2.2.1 pc = .ok (.invokevirtual i, 3)) (hA : At1 n h o (cO ci fs)) (hci : (vwCl[ci]?).map (fun q => q.1) = some M'.2.1.cls) (hC : CtrJ M' d' (vR o :: As) n h post) (hd : d' + 1 ≤ d) (hkc : k ≤ mc) (huc : u ≤ ms) (hn : As.length = nA) (hl : (ent (vR o :: As)).length ≤ M'.2.2.2.1) (hst : S0 = As.reverse ++ vR o :: S) (hsum : catS S ≤ 8) (hq : pc + 3 = pc') (kk : ∀ (x : Int) (h' : PH), post x h' → QL Z M d mc ms F k u pc' L (vJ x :: S) false n h') : QL Z M d mc ms F k u pc L S0 false n h :=
  ql_callV hL hdg hA.blk 0 rfl hci hC hd hkc huc hn hl hst hsum hq (fun r n' h' hp => by obtain ⟨x, rfl, rfl, hp⟩ := hp; exact kk x h' hp)
theorem rl_new {i ci n' : Nat} {fs : List PV} (hN : NWk M.1 i ci fs) (hdg : decode M.2.2.1 pc = .ok (.new i, 3)) (hkc : k + 1 ≤ mc) (huc : u + fs.length ≤ ms) (hq : pc + 3 = pc') (hn : n + 1 = n') (kk : ∀ h', h' = hp h n (cO ci fs) → QL Z M d mc ms F (k + 1) (u + fs.length) pc' L (vR n :: S) true n' h') : QL Z M d mc ms F k u pc L S true n h := by
  subst hn; exact ql_new hN hdg hkc huc hq (kk _ rfl)
theorem rl_newJ {x : Int} {n' : Nat} (N : Nat) (hx : x = (N : Int)) (hdg : decode M.2.2.1 pc = .ok (.newarray .long, 2)) (hb : N ≤ 50000000) (hkc : k + 1 ≤ mc) (huc : u + N ≤ ms) (hq : pc + 2 = pc') (hn : n + 1 = n') (kk : ∀ h', h' = hp h n (cJ N (fun _ => 0)) → QL Z M d mc ms F (k + 1) (u + N) pc' L (vR n :: S) true n' h') : QL Z M d mc ms F k u pc L (vI x :: S) true n h := by
  subst hn; exact ql_newJ N hx ka_long hdg hb hkc huc hq (kk _ rfl)
theorem ql_callSW {M' : MD} {i d' mc' ms' nA : Nat} {As : List PV} {post : Option PV → Nat → PH → Prop} (hL : CSWk M.1 i M' nA) (hdg : decode M.2.2.1 pc = .ok (.invokestatic i, 3)) (hC : Ctr M' d' mc' ms' a As n h post) (hd : d' + 1 ≤ d) (hkc : k + mc' ≤ mc) (huc : u + ms' ≤ ms) (hn : As.length = nA) (hl : (ent As).length ≤ M'.2.2.2.1) (hst : S0 = As.reverse ++ S) (hsum : catS S ≤ 8) (hq : pc + 3 = pc')
    (kk : ∀ (r : Option PV) (n' : Nat) (h' : PH), post r n' h' → QL Z M d mc ms F (k + mc') (u + ms') pc' L (r.toList ++ S) a n' h') : QL Z M d mc ms F k u pc L S0 a n h := by
  subst hq
  subst hst
  intro p l e R s m args below meth c D B K X H locs ls O Hl HP Hs HS
  obtain ⟨hx, hb, hr, hml, hown, hts, hlocks, hname, ⟨r1, r2, r3, r4⟩, hWd, htab⟩ := id O
  have hfit : (rmD d' mc' ms').frames + 1 ≤ R.frames ∧ 8 + (M'.2.2.2.1 + 11) + (rmD d' mc' ms').locals ≤ R.locals := by
    have := hL.1.2.2.1
    refine ⟨?_, ?_⟩
    · show d' + 1 ≤ R.frames
      omega
    · show 8 + (M'.2.2.2.1 + 11) + 40 * d' ≤ R.locals
      omega
  have hcw := vx_cwSW (args := args) (s := s) (own := M.1) (index := i) (y := M'.2.1) (bytes := M'.2.2.1) (maxL := M'.2.2.2.1) (ret := M'.2.2.2.2.1) (hh := M'.2.2.2.2.2) (ws := wsW M') (rm := rmD d' mc' ms') (mc := mc') (ms := ms') (R := R) nA hts (wsW_goodS hL) rfl rfl rfl ⟨hL.1.2.2.2.2.2.1, hL.1.2.2.2.2.2.2, hL.2.1⟩ hfit
  refine q_back (vx_runSW (As := As.map (tv B)) (rest := S.map (tv B)) ⟨hx, hb, hml, hown, hts⟩ (MetW_of hL.1 hC hl l D B K X) hcw ⟨Pc_blind, fun U hU hW => ⟨rfl, Pc_at hWd HP Hs HS U hU hW⟩⟩ rfl (by rw [List.length_map]; exact hn) Hl.1 (by simp only [List.map_append, List.map_reverse, F0]) (lv_room (by rw [catS_eq]; exact hsum)) hdg ⟨Nat.le_trans hkc r3, Nat.le_trans huc r4⟩) HS ?_
  intro r n' h' H1 locs1 hp hP1 hs1 hS1
  have := kk r n' h' hp p l e R s m args below meth c D B K X H1 locs1 ls O Hl hP1 hs1 hS1
  rw [List.map_append] at this
  cases r <;> exact this
/-- script[i + j] != 0 as a boolean -/
def bz (x : Int) : Int := if x = 0 then 0 else 1
theorem bz_01 (x : Int) : bz x = 0 ∨ bz x = 1 := by
  unfold bz
  split
  · exact Or.inl rfl
  · exact Or.inr rfl
theorem ql_bool {i j : Nat} (hl : L[4]? = some (some (vI (i : Int)))) (hi : i + j < Z.2.1) (hM : Z.2.1 ≤ 4000) (d0 : decode M.2.2.1 pc = .ok (.aload_n 0, 1)) (d1 : decode M.2.2.1 (pc + 1) = .ok (.iload 4, 2)) (d2 : decode M.2.2.1 (pc + 3) = .ok (.iconst (j : Int), 1)) (d3 : decode M.2.2.1 (pc + 4) = .ok (.iadd, 1)) (d4 : decode M.2.2.1 (pc + 5) = .ok (.iaload, 1)) (d5 : decode M.2.2.1 (pc + 6) = .ok (.ifCond .eq 7, 3)) (d6 : decode M.2.2.1 (pc + 9) = .ok (.iconst 1, 1)) (d7 : decode M.2.2.1 (pc + 10) = .ok (.goto 4, 3)) (d8 : decode M.2.2.1 (pc + 13) = .ok (.iconst 0, 1)) (hq : pc + 14 = pc') (kk : QL Z M d mc ms F k u pc' L (vI (bz (scI Z (i + j))) :: S) a n h) : QL Z M d mc ms F k u pc L S a n h := by
  subst hq
  refine ql_arg (pc' := pc + 6) hl hi hM d0 d1 d2 d3 d4 rfl ?_
  refine ql_if_eq (tgt := pc + 13) (pc' := pc + 9) d5 (by omega) rfl (scI_ir _ _) (fun z => ?_) (fun z => ?_)
  · refine ql_iconst (pc' := pc + 14) d8 rfl ?_
    unfold bz at kk
    rw [if_pos z] at kk
    exact kk
  · refine ql_iconst (pc' := pc + 10) d6 rfl ?_
    refine ql_goto (tgt := pc + 14) d7 (by omega) ?_
    unfold bz at kk
    rw [if_neg z] at kk
    exact kk
end QLRULES
