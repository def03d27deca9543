/-! ===== the abstract machine: cells by number (real address: B and the number; 0 is null), kinds, ints, references ===== -/
abbrev Mi : Type := Nat → Nat → Int32
abbrev Mr : Type := Nat → Nat → Nat
abbrev Sh : Type := Nat × (Nat → Nat × Nat)
abbrev PT : Type := List Value → List Value → Sh → Nat × Nat → Mi → Mr → Prop
abbrev RT : Type := Option Value → Sh → Mi → Mr → Prop
abbrev Jm : Type := MethodName × ByteArray × Nat × Option FieldType × Nat × Nat
abbrev CT : Type := Jm → List Value → Sh → Mi → Mr → RT → Prop
abbrev Dt : Type := (Nat → ClassId) × (Nat → Nat → Nat) × (Nat → ClassId)
abbrev Xt : Type := UInt32 → Nat × Nat × (Nat → Int32)
abbrev Zt : Type := Launch × Dt × Nat × Xt × (State → Prop)
def cR : Nat → String := fun c => match c with
  | 1 => RX1 | 2 => RX2 | 3 => RX3 | 4 => RX4 | 5 => RX5 | 6 => RX6 | 7 => RX7 | 9 => RX9 | 10 => RX10 | 11 => RX11 | _ => RX12
def cT : Nat → u_T := fun c => match c with
  | 1 => TX1 | 2 => TX2 | 3 => TX3 | 4 => TX4 | 5 => TX5 | 6 => TX6 | 7 => TX7 | 9 => TX9 | 10 => TX10 | 11 => TX11 | _ => TX12
def cTy : Nat → Nat → FieldType := fun c => match c with
  | 1 => tyX1 | 2 => tyX2 | 3 => tyX3 | 4 => tyX4 | 5 => tyX5 | 6 => tyX6 | 7 => tyX7 | 9 => tyX9 | 10 => tyX10 | 11 => tyX11 | _ => tyX12
def cN : Nat → Nat := fun c => match c with
  | 1 => 6 | 2 => 10 | 3 => 2 | 4 => 10 | 5 => 4 | 6 => 5 | 7 => 18 | 9 => 7 | 10 => 6 | 11 => 11 | _ => 27
def cOK (c : Nat) : Bool := c == 1 || c == 2 || c == 3 || c == 4 || c == 5 || c == 6 || c == 7 || c == 9 || c == 10 || c == 11 || c == 12
theorem cOK_cases {c : Nat} (h : cOK c = true) : c = 1 ∨ c = 2 ∨ c = 3 ∨ c = 4 ∨ c = 5 ∨ c = 6 ∨ c = 7 ∨ c = 9 ∨ c = 10 ∨ c = 11 ∨ c = 12 := by
  simp [cOK] at h
  omega
theorem ci_1 : ∀ w ∈ u_ws RX1 TX1 6, w ∈ lw_good := by decide +kernel
theorem ci_2 : ∀ w ∈ u_ws RX2 TX2 10, w ∈ lw_good := by decide +kernel
theorem ci_3 : ∀ w ∈ u_ws RX3 TX3 2, w ∈ lw_good := by decide +kernel
theorem ci_4 : ∀ w ∈ u_ws RX4 TX4 10, w ∈ lw_good := by decide +kernel
theorem ci_5 : ∀ w ∈ u_ws RX5 TX5 4, w ∈ lw_good := by decide +kernel
theorem ci_6 : ∀ w ∈ u_ws RX6 TX6 5, w ∈ lw_good := by decide +kernel
theorem ci_7 : ∀ w ∈ u_ws RX7 TX7 18, w ∈ lw_good := by decide +kernel
theorem ci_9 : ∀ w ∈ u_ws RX9 TX9 7, w ∈ lw_good := by decide +kernel
theorem ci_10 : ∀ w ∈ u_ws RX10 TX10 6, w ∈ lw_good := by decide +kernel
theorem ci_11 : ∀ w ∈ u_ws RX11 TX11 11, w ∈ lw_good := by decide +kernel
theorem ci_12 : ∀ w ∈ u_ws RX12 TX12 27, w ∈ lw_good := by decide +kernel
theorem c_in {c : Nat} (h : cOK c = true) : ∀ w ∈ u_ws (cR c) (cT c) (cN c), w ∈ lw_good := by
  rcases cOK_cases h with rfl | rfl | rfl | rfl | rfl | rfl | rfl | rfl | rfl | rfl | rfl
  · exact ci_1
  · exact ci_2
  · exact ci_3
  · exact ci_4
  · exact ci_5
  · exact ci_6
  · exact ci_7
  · exact ci_9
  · exact ci_10
  · exact ci_11
  · exact ci_12
theorem c_ty {c : Nat} (h : cOK c = true) : ∀ k, k < cN c → parseFieldDescriptor (cT c k).2.2.1 = some (cTy c k) := by
  rcases cOK_cases h with rfl | rfl | rfl | rfl | rfl | rfl | rfl | rfl | rfl | rfl | rfl
  · exact tyX1_ok
  · exact tyX2_ok
  · exact tyX3_ok
  · exact tyX4_ok
  · exact tyX5_ok
  · exact tyX6_ok
  · exact tyX7_ok
  · exact tyX9_ok
  · exact tyX10_ok
  · exact tyX11_ok
  · exact tyX12_ok
theorem c_nm {c : Nat} (h : cOK c = true) : ∀ a, a < cN c → ∀ b, b < cN c → a ≠ b → (cT c a).2.1 ≠ (cT c b).2.1 := by
  rcases cOK_cases h with rfl | rfl | rfl | rfl | rfl | rfl | rfl | rfl | rfl | rfl | rfl
  · exact nmX1
  · exact nmX2
  · exact nmX3
  · exact nmX4
  · exact nmX5
  · exact nmX6
  · exact nmX7
  · exact nmX9
  · exact nmX10
  · exact nmX11
  · exact nmX12
theorem cd_all : ∀ c, c < 13 → cOK c = true → ∀ k, k < cN c → (cT c k).1 = cR c := by decide +kernel
theorem c_dec {c : Nat} (h : cOK c = true) {k : Nat} (hk : k < cN c) : (cT c k).1 = cR c :=
  cd_all c (by rcases cOK_cases h with rfl | rfl | rfl | rfl | rfl | rfl | rfl | rfl | rfl | rfl | rfl <;> decide) h k hk
/-- is a field a reference -/
def isR (c k : Nat) : Bool := match cTy c k with
  | .object _ => true
  | .array _ => true
  | _ => false
def aOK (k : Nat) : Bool := k == 20 || k == 21 || k == 22 || k == 32 || k == 37 || k == 40
def aTy : Nat → FieldType := fun k => match k with
  | 20 => .int | 21 => .byte | 22 => .boolean | 32 => .object RX2 | 37 => .object RX7 | _ => .object RX10
def sV (B : Nat) (X : Xt) : Value → Value := fun v => match v with
  | .ref a => .ref (B + a)
  | .float k => .ref (X k).1
  | .int x => .int x
  | .long x => .long x
  | .double x => .double x
  | .null => .null
  | .retAddr x => .retAddr x
def rv (B a : Nat) : Value := if a = 0 then .null else .ref (B + a)
def fvv (B c k : Nat) (x : Int32) (a : Nat) : Value := if isR c k = true then rv B a else .int x
def avv (B k : Nat) (x : Int32) (a : Nat) : Value := if k < 30 then .int x else rv B a
/-- what a cell of a kind holds -/
def CA (D : Dt) (B : Nat) (K : Nat × Nat) (f : Nat → Int32) (g : Nat → Nat) (o : Option Cell) : Prop :=
  (cOK K.1 = true ∧ K.2 = cN K.1 ∧ ∃ cell : Cell, o = some cell ∧ cell.cls = D.1 K.1 ∧ cell.vm = .none ∧ ∀ k, k < K.2 → cell.slots[D.2.1 K.1 k]? = some (fvv B K.1 k (f k) (g k))) ∨
  (aOK K.1 = true ∧ o = some (arrV (D.2.2 K.1) K.2 (fun j => avv B K.1 (f j) (g j))))
def HR (D : Dt) (B : Nat) (S : Sh) (μ : Mi) (ρ : Mr) (H : Heap) : Prop :=
  H.size = B + S.1 ∧ 1 ≤ S.1 ∧ ∀ a, (S.2 a).1 < 50 → 1 ≤ a ∧ a < S.1 ∧ CA D B (S.2 a) (μ a) (ρ a) H[B + a]?
/-- the tables: classes, array classes, the words that go by the state -/
def Kd (D : Dt) (U : State) : Prop :=
  (∀ c, cOK c = true → u_Kn U (cR c) (cT c) (cN c) (D.1 c) (D.2.1 c)) ∧ (∀ k, aOK k = true → ArrOfT U (D.2.2 k) (aTy k) ∧ va_RA U (D.2.2 k) (aTy k)) ∧ ∀ w ∈ nest_ws, w.before #[] U = true
theorem nest_cases {w : Cond} (h : w ∈ nest_ws) : (∃ a i x q, w = .methodLinkNest a i x q) ∨ ∃ C, w = .arrayOver (.object C) := by
  simp only [nest_ws, List.mem_cons, List.not_mem_nil, or_false] at h
  rcases h with rfl | rfl | rfl | rfl | rfl | rfl | rfl | rfl | rfl | rfl | rfl | rfl
  all_goals first | exact Or.inl ⟨_, _, _, _, rfl⟩ | exact Or.inr ⟨_, rfl⟩
theorem Kd.warm {D : Dt} {s U : State} (hW : s.WarmedH U.vm) (h : Kd D s) : Kd D U := by
  refine ⟨fun c hc => u_Kn_moved hW.alike (h.1 c hc), fun k hk => ⟨arrOfT_moved hW.alike (h.2.1 k hk).1, (h.2.1 k hk).2.moved hW.alike⟩, fun w hw => ?_⟩
  have h1 := h.2.2 w hw
  rcases nest_cases hw with ⟨a, i, x, q, rfl⟩ | ⟨C, rfl⟩
  · exact va_Nw.warmM hW h1
  · exact va_AO.moved hW.alike h1
/-- the locals: all of one slot; what is .null here is not known -/
def LR (B : Nat) (X : Xt) (nL : Nat) (L : List Value) (ls : Array Slot) : Prop :=
  L.length = nL ∧ ls.size = nL ∧ lv_wf ls ∧ ∀ (i : Nat) (v : Value), L[i]? = some v → v ≠ .null → v.category = 1 ∧ ls[i]? = some (.val (sV B X v))
def EOK (B : Nat) (E : State → Prop) : Prop := ∀ U V : State, U.WarmedH V.vm → (∀ a : Nat, a ≤ B → V.heap[a]? = U.heap[a]?) → E U → E V
def rmS (d : Nat) (j : Jm) : Room := { frames := d + 1, cells := j.2.2.2.2.1, slots := j.2.2.2.2.2, locals := 64 * (d + 1) }
def wsS1 (j : Jm) : List Cond := Cond.code j.1 j.2.1 j.2.2.1 j.2.2.2.1 :: lw_good
def PcS (Z : Zt) (av : List Value) (S : Sh) (μ : Mi) (ρ : Mr) : Array Value → State → Prop := fun v U =>
  v = (av.map (sV Z.2.2.1 Z.2.2.2.1)).toArray ∧ HR Z.2.1 Z.2.2.1 S μ ρ U.heap ∧ Kd Z.2.1 U ∧ Z.2.2.2.2 U
def QcS (Z : Zt) (Post : RT) : Array Value → State → Outcome → State → Prop := fun _ st o t =>
  ∃ (r : Option Value) (S' : Sh) (μ' : Mi) (ρ' : Mr), o = .returned (r.map (sV Z.2.2.1 Z.2.2.2.1)) ∧ Post r S' μ' ρ' ∧ HR Z.2.1 Z.2.2.1 S' μ' ρ' t.heap ∧ ∀ a : Nat, a ≤ Z.2.2.1 → t.heap[a]? = st.heap[a]?
/-- the machine's contract of a method -/
def MS (Z : Zt) (d : Nat) : CT := fun j av S μ ρ Post =>
  EOK Z.2.2.1 Z.2.2.2.2 → Met Z.1 j.1 (wsS1 j) (rmS d j) (PcS Z av S μ ρ) (QcS Z Post) j.2.2.2.2.1 j.2.2.2.2.2 (fun a => Z.2.2.1 < a)
def LO (Z : Zt) (R : Room) (q : Nat × Nat) (locs : List Loc) : Prop := (∀ x ∈ locs, Z.2.2.1 < x.base) ∧ q.1 ≤ R.cells ∧ q.2 ≤ R.slots
/-- a place of the machine, seen from the abstract one -/
def Gw (Z : Zt) (nL : Nat) (p : Program) (e : Env) (R : Room) (s : State) (m : MethodId) (args : Array Value) (below : List Frame) (meth : Method) (c : Code) (Q : State → Prop) (pc : Nat) : PT := fun L st S q μ ρ =>
  ∀ (H : Heap) (locs : List Loc) (ls : Array Slot), HR Z.2.1 Z.2.2.1 S μ ρ H → (∀ a : Nat, a ≤ Z.2.2.1 → H[a]? = s.heap[a]?) → LO Z R q locs → LR Z.2.2.1 Z.2.2.2.1 nL L ls →
    W p Z.1 e R s m args below meth c H locs q.1 q.2 Q (F0 m pc ls (st.map (sV Z.2.2.1 Z.2.2.2.1)))
/-- what holds in a method's body -/
def Cx (Z : Zt) (d : Nat) (j : Jm) (own : String) (p : Program) (R : Room) (s : State) (m : MethodId) (args : Array Value) (meth : Method) (c : Code) : Prop :=
  p.tables.exec = Jvm.exec ∧ c.code = j.2.1 ∧ c.maxLocals = j.2.2.1 ∧ s.vm.findClass own = some m.cls ∧ (∀ w ∈ lw_good, w.before args s = true) ∧ meth.sig.returnType = j.2.2.2.1 ∧ meth.locks = false ∧ Kd Z.2.1 s ∧ Z.2.2.2.2 s ∧ EOK Z.2.2.1 Z.2.2.2.2 ∧ R = rmS (d + 1) j ∧ meth.name = j.1.name
