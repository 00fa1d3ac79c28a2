/-! THE WORLD OF A CALL: what of the tables and of the cells below B each method is given -/
def va_AOA (ty : FieldType) (U : State) : Prop := (Cond.arrayOver (.array ty)).before #[] U = true
def nWord : Cond → Bool
  | .declares _ => true
  | .castable .. => true
  | .methodLinkNest .. => true
  | .fieldLinkNest .. => true
  | _ => false
def TN : List Cond := lw_tbl.filter nWord
theorem TN_mem {w : Cond} {i : Nat} (h : lw_tbl[i]? = some w) (hg : nWord w = true) : w ∈ TN := List.mem_filter.mpr ⟨List.mem_of_getElem? h, hg⟩
theorem nWord_move {s U : State} (hW : s.WarmedH U.vm) {w : Cond} (hg : nWord w = true) (h : va_Nw w s) : va_Nw w U := by
  cases w with
  | declares x => exact va_Nw.warmD hW h
  | castable a b => exact va_Nw.warmC hW h
  | methodLinkNest a b c d => exact va_Nw.warmM hW h
  | fieldLinkNest a b c d e f => exact va_Nw.warmF hW h
  | _ => cases hg
theorem va_AOA.moved {ty : FieldType} {u U : State} (hvm : u.vm.Alike U.vm) (h : va_AOA ty u) : va_AOA ty U := by
  have h2 : (Cond.arrayOver (.array ty)).before #[] (u.setVm U.vm) = true := by
    rw [Cond.arrayOver_setVmC hvm (.array ty)]
    exact h
  exact h2
abbrev XT : Type := Nat × Nat × (Nat → Nat)
def tysK (K : Nat → ClassId) : List (ClassId × FieldType) := [(K 0, .int), (K 1, .long), (K 2, .object "BatchMachine$State"), (K 3, .array .int)]
def rowLo : Nat → Int := fun j => if j = 1 ∨ j = 4 then 1 else 0
def rowHi : Nat → Int := fun j => match j with
  | 0 => 3
  | 1 => 50
  | 2 => 300
  | 3 => 500
  | _ => 9
/-- the texts of the class's exceptions, by their places in its pool -/
def STR : List (Nat × String) := [(58, "a value of the job is out of range"), (72, "there are 8 jobs"), (92, "there is no such job"), (103, "what or value is out of range"), (108, "what is out of range"), (110, "there is no such family"), (112, "time is out of range"), (123, "objective is out of range"), (128, "value is out of range"), (133, "the text has 60 bytes"), (146, "rule is out of range"), (163, "steps is out of range"), (169, "there is no such batch"), (182, "there is no such batch or place"), (219, "there is no saved state")]
/-- classes of exceptions that a handler passes by -/
def NCS : List (String × String) := [("java/lang/IllegalStateException", "java/lang/IllegalArgumentException"), ("java/lang/IllegalArgumentException", "java/lang/IndexOutOfBoundsException")]
def Wd (l : Launch) (D : va_G) (B : Nat) (K : Nat → ClassId) (X : XT) (s : State) : Prop :=
  va_K D vwCl (tysK K) s ∧ B ≤ s.heap.size ∧ (∀ w ∈ TN, va_Nw w s) ∧ va_AO "BatchMachine$State" s ∧ va_AOA .int s ∧
  (va_Z "BatchMachine" "LEAST_VALUE" "[I" (.ref X.1) (fun q => B ≤ q) s s.heap ∧ va_T .int X.1 5 (fun j => .int (Int32.ofInt (rowLo j))) (fun q => B ≤ q) s s.heap) ∧
  (va_Z "BatchMachine" "GREATEST_VALUE" "[I" (.ref X.2.1) (fun q => B ≤ q) s s.heap ∧ va_T .int X.2.1 5 (fun j => .int (Int32.ofInt (rowHi j))) (fun q => B ≤ q) s s.heap) ∧
  (l.stackTraces = false ∧ vx_Zq Bundle.tN "UNASSIGNED_STACK" Bundle.steD (fun q => B ≤ q) s s.heap ∧ vx_Zq Bundle.tN "SUPPRESSED_SENTINEL" Bundle.listD (fun q => B ≤ q) s s.heap ∧ (∀ q ∈ STR, vk_R "BatchMachine" q.1 q.2 (X.2.2 q.1) s) ∧ ∀ q ∈ NCS, va_Nc q.1 q.2 s)
theorem Wd.move {l : Launch} {D : va_G} {B : Nat} {K : Nat → ClassId} {X : XT} {s U : State} (h : Wd l D B K X s) (hW : s.WarmedH U.vm) (hz : s.heap.size ≤ U.heap.size) (hq : ∀ q : Nat, q < s.heap.size → ¬ B ≤ q → U.heap[q]? = s.heap[q]?) : Wd l D B K X U := by
  obtain ⟨h1, h2, h3, h4, h5, ⟨h6, h7⟩, ⟨h8, h9⟩, h10, h11, h12, h13, h14⟩ := h
  have hv := hW.alike
  exact ⟨va_K.moved hv h1, Nat.le_trans h2 hz, fun w hw => nWord_move hW (List.mem_filter.mp hw).2 (h3 w hw), va_AO.moved hv h4, va_AOA.moved hv h5,
    ⟨va_Z.moved hv (va_Z.kept h6 hq), va_T.moved hv (va_T.kept h7 hq)⟩, ⟨va_Z.moved hv (va_Z.kept h8 hq), va_T.moved hv (va_T.kept h9 hq)⟩,
    h10, vx_Zq.moved hv (vx_Zq.kept h11 hq), vx_Zq.moved hv (vx_Zq.kept h12 hq), fun q hq => vk_R.warm hW (h13 q hq), fun q hq => va_Nc.moved hv (h14 q hq)⟩
/-- a method: its class, its name, its code, its locals, what it returns -/
abbrev MD : Type := String × MethodName × ByteArray × Nat × Option FieldType × List (Nat × Nat × Nat × Nat)
/-- what a walk ends in -/
abbrev FT : Type := Launch → List Frame → Array Value → State → va_G → Nat → (Nat → ClassId) → XT → State → Prop
def OKx (M : MD) (d mc ms : Nat) (p : Program) (l : Launch) (R : Room) (s : State) (m : MethodId) (args : Array Value) (meth : Method) (c : Code) (D : va_G) (B : Nat) (K : Nat → ClassId) (X : XT) : Prop :=
  p.tables.exec = Jvm.exec ∧ c.code = M.2.2.1 ∧ meth.sig.returnType = M.2.2.2.2.1 ∧ c.maxLocals = M.2.2.2.1 ∧ s.vm.findClass M.1 = some m.cls ∧ (∀ w ∈ TB, w.before args s = true) ∧ meth.locks = false ∧ meth.name = M.2.1.name ∧
  (d ≤ R.frames ∧ 40 * d ≤ R.locals ∧ mc ≤ R.cells ∧ ms ≤ R.slots) ∧ Wd l D B K X s ∧ c.exceptionTable.toList = tableOf M.2.2.2.2.2
/-- THE JUDGEMENT: at pc with locals L, stack S and the heap h of n cells (all that has been made, if a), the method comes to F; k cells of u slots have been made -/
def QW (M : MD) (d mc ms : Nat) (F : FT) (k u : Nat) (pc : Nat) (L : List (Option PV)) (S : List PV) (a : Bool) (n : Nat) (h : PH) : Prop :=
  ∀ (p : Program) (l : Launch) (e : Env) (R : Room) (s : State) (m : MethodId) (args : Array Value) (below : List Frame) (meth : Method) (c : Code) (D : va_G) (B : Nat) (K : Nat → ClassId) (X : XT) (H : Heap) (locs : List Loc) (ls : Array Slot),
    OKx M d mc ms p l R s m args meth c D B K X → lv_has ls M.2.2.2.1 (prs B 0 L) → va_P D vwCl (wsO B K n h) H → (a = true → H.size = B + n) → va_S (fun q => B ≤ q) s.heap H locs →
    W p l e R s m args below meth c H locs k u (F l below args s D B K X) (F0 m pc ls (S.map (tv B)))
/-- a method's end: it has returned v (a pure value or nothing), and the heap is h of n cells -/
def QR (B : Nat) (D : va_G) (K : Nat → ClassId) (a : Bool) (post : Option PV → Nat → PH → Prop) : Array Value → State → Outcome → State → Prop := fun _ st o t =>
  ∃ (r : Option PV) (n : Nat) (h : PH), o = .returned (r.map (tv B)) ∧ post r n h ∧ va_P D vwCl (wsO B K n h) t.heap ∧ (a = true → t.heap.size = B + n) ∧ va_F (fun q => B ≤ q) st t
def FR (a : Bool) (mc ms : Nat) (post : Option PV → Nat → PH → Prop) : FT := fun _ below args s D B K _ => MQ below (QR B D K a post) args s mc ms (fun q => B ≤ q)
/-- the locals at the entry -/
def ent : List PV → List (Option PV)
  | [] => []
  | .inr (.inl z) :: l => some (.inr (.inl z)) :: none :: ent l
  | v :: l => some v :: ent l
def entL (M : MD) (As : List PV) : List (Option PV) := ent As ++ List.replicate (M.2.2.2.1 - (ent As).length) none
/-- A CONTRACT: called with As in the heap h of n cells, M returns, and post holds of what it returns and leaves -/
def Ctr (M : MD) (d mc ms : Nat) (a : Bool) (As : List PV) (n : Nat) (h : PH) (post : Option PV → Nat → PH → Prop) : Prop :=
  QW M d mc ms (FR a mc ms post) 0 0 0 (entL M As) [] a n h
