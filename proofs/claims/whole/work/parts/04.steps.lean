/-! ===== instructions as combinators, and that the machine does them ===== -/
def nth : List Value → Nat → Value := fun l n => match l, n with
  | [], _ => .null
  | v :: _, 0 => v
  | _ :: l, n + 1 => nth l n
def sset : List Value → Nat → Value → Option (List Value) := fun l n v => match l, n with
  | [], _ => none
  | _ :: l, 0 => some (v :: l)
  | w :: l, n + 1 => match sset l n v with
    | some l' => some (w :: l')
    | none => none
def popN : Nat → List Value → List Value → Option (List Value × List Value) := fun n acc st => match n, st with
  | 0, st => some (acc, st)
  | _ + 1, [] => none
  | n + 1, v :: st => popN n (v :: acc) st
def inb (i : Int32) (n : Nat) : Prop := vp_in i n
def upI (μ : Mi) (a k : Nat) (x : Int32) : Mi := fun b i => if b = a then (if i = k then x else μ b i) else μ b i
def upR (ρ : Mr) (a k : Nat) (x : Nat) : Mr := fun b i => if b = a then (if i = k then x else ρ b i) else ρ b i
def upF {α : Type} (μ : Nat → Nat → α) (a : Nat) (f : Nat → α) : Nat → Nat → α := fun b => if b = a then f else μ b
def upK (K : Nat → Nat × Nat) (a : Nat) (x : Nat × Nat) : Nat → Nat × Nat := fun b => if b = a then x else K b
theorem nth_get : ∀ (L : List Value) (i : Nat) (v : Value), nth L i = v → v ≠ .null → L[i]? = some v := by
  intro L
  induction L with
  | nil => intro i v h hn; exact absurd h.symm hn
  | cons w L ih =>
    intro i v h hn
    cases i with
    | zero => simp [nth] at h; simp [h]
    | succ i => simp [nth] at h; simpa using ih i v h hn
theorem sset_get : ∀ (L : List Value) (i : Nat) (v : Value) (L' : List Value), sset L i v = some L' → L'.length = L.length ∧ i < L.length ∧ ∀ j, L'[j]? = if j = i then some v else L[j]? := by
  intro L
  induction L with
  | nil => intro i v L' h; cases h
  | cons w L ih =>
    intro i v L' h
    cases i with
    | zero =>
      simp [sset] at h
      subst h
      refine ⟨by simp, by simp, fun j => ?_⟩
      cases j with
      | zero => simp
      | succ j => simp
    | succ i =>
      simp only [sset] at h
      cases hq : sset L i v with
      | none => rw [hq] at h; cases h
      | some L2 =>
        rw [hq] at h
        cases h
        obtain ⟨h1, h2, h3⟩ := ih i v L2 hq
        refine ⟨by simp [h1], by simp; exact h2, fun j => ?_⟩
        cases j with
        | zero => simp
        | succ j => simp [h3 j]
theorem popN_spec : ∀ (n : Nat) (acc st As rest : List Value), popN n acc st = some (As, rest) → ∃ pre : List Value, As = pre ++ acc ∧ pre.length = n ∧ st = pre.reverse ++ rest := by
  intro n
  induction n with
  | zero => intro acc st As rest h; cases st <;> (simp [popN] at h; obtain ⟨rfl, rfl⟩ := h; exact ⟨[], rfl, rfl, rfl⟩)
  | succ n ih =>
    intro acc st As rest h
    cases st with
    | nil => cases h
    | cons v st =>
      simp only [popN] at h
      obtain ⟨pre, h1, h2, h3⟩ := ih _ _ _ _ h
      exact ⟨pre ++ [v], by simp [h1], by simp [h2], by simp [h3]⟩
theorem popN_0 {n : Nat} {st As rest : List Value} (h : popN n [] st = some (As, rest)) : st = As.reverse ++ rest ∧ As.length = n := by
  obtain ⟨pre, h1, h2, h3⟩ := popN_spec n [] st As rest h
  rw [List.append_nil] at h1
  subst h1
  exact ⟨h3, h2⟩
theorem sV_cat (B : Nat) (X : Xt) (v : Value) : (sV B X v).category = v.category := by cases v <;> rfl
def lvp (B : Nat) (X : Xt) (L : List Value) : List (Nat × Value) := (List.range L.length).filterMap (fun i => match L[i]? with
  | some v => if v = .null then none else some (i, sV B X v)
  | none => none)
theorem LR.has {B : Nat} {X : Xt} {nL : Nat} {L : List Value} {ls : Array Slot} (h : LR B X nL L ls) : lv_has ls nL (lvp B X L) := by
  refine ⟨h.2.1, h.2.2.1, fun q hq => ?_⟩
  obtain ⟨i, -, hi⟩ := List.mem_filterMap.mp hq
  cases hv : L[i]? with
  | none => rw [hv] at hi; cases hi
  | some v =>
    rw [hv] at hi
    by_cases hn : v = .null
    · simp [hn] at hi
    · simp [hn] at hi
      subst hi
      exact (h.2.2.2 i v hv hn).2
theorem LR.put {B : Nat} {X : Xt} {nL : Nat} {L L' : List Value} {ls ls' : Array Slot} {i : Nat} {v : Value} (h : LR B X nL L ls) (hv : v.category = 1) (hs : sset L i v = some L')
    (h' : lv_has ls' nL ((i, sV B X v) :: (lvp B X L).filter (fun q => !(q.1 == i) && !(q.1 + 1 == i && q.2.category == 2)))) : LR B X nL L' ls' := by
  obtain ⟨g1, g2, g3⟩ := sset_get L i v L' hs
  refine ⟨g1.trans h.1, h'.1, h'.2.1, fun k w hw hn => ?_⟩
  rw [g3 k] at hw
  by_cases hk : k = i
  · rw [if_pos hk] at hw
    cases hw
    exact ⟨hv, by rw [hk]; exact h'.2.2 _ List.mem_cons_self⟩
  · rw [if_neg hk] at hw
    have hc := (h.2.2.2 k w hw hn).1
    refine ⟨hc, h'.2.2 (k, sV B X w) (List.mem_cons_of_mem _ (List.mem_filter.mpr ⟨List.mem_filterMap.mpr ⟨k, ?_, ?_⟩, ?_⟩))⟩
    · exact List.mem_range.mpr (List.getElem?_eq_some_iff.mp hw).1
    · rw [hw]; simp [hn]
    · have h2 : (sV B X w).category = 1 := by rw [sV_cat]; exact hc
      simp [hk, h2]
section Steps
variable {Z : Zt} {d : Nat} {j : Jm} {own : String} {p : Program} {e : Env} {R : Room} {s : State} {m : MethodId} {args : Array Value} {below : List Frame} {meth : Method} {c : Code} {Q : State → Prop} {pc : Nat} {t J : PT}
abbrev Sd (Z : Zt) (j : Jm) (p : Program) (e : Env) (R : Room) (s : State) (m : MethodId) (args : Array Value) (below : List Frame) (meth : Method) (c : Code) (Q : State → Prop) (pc : Nat) (t : PT) : Prop :=
  ∀ (L st : List Value) (S : Sh) (q : Nat × Nat) (μ : Mi) (ρ : Mr), t L st S q μ ρ → Gw Z j.2.2.1 p e R s m args below meth c Q pc L st S q μ ρ

def tIload (i : Nat) (t : PT) : PT := fun L st S q μ ρ => match nth L i with
  | .int x => t L (.int x :: st) S q μ ρ
  | _ => False
def tAload (i : Nat) (t : PT) : PT := fun L st S q μ ρ => match nth L i with
  | .ref x => t L (.ref x :: st) S q μ ρ
  | .float x => t L (.float x :: st) S q μ ρ
  | _ => False
theorem s_iload_n (C : Cx Z d j own p R s m args meth c) {k : Fin 4} (hd : decode j.2.1 pc = .ok (.iload_n k, 1)) (k1 : Sd Z j p e R s m args below meth c Q (pc + 1) t) : Sd Z j p e R s m args below meth c Q pc (tIload k.val t) := by
  intro L st S q μ ρ h H locs ls hH hB hl hL
  unfold tIload at h
  split at h
  · rename_i x hx
    exact lv_iload_n C.1 C.2.1 hd rfl (hL.2.2.2 _ _ (nth_get L _ _ hx (fun z => by cases z)) (fun z => by cases z)).2 (k1 L _ S q μ ρ h H locs ls hH hB hl hL)
  · exact h.elim
theorem s_iload (C : Cx Z d j own p R s m args meth c) {k : Nat} (hd : decode j.2.1 pc = .ok (.iload k, 2)) (k1 : Sd Z j p e R s m args below meth c Q (pc + 2) t) : Sd Z j p e R s m args below meth c Q pc (tIload k t) := by
  intro L st S q μ ρ h H locs ls hH hB hl hL
  unfold tIload at h
  split at h
  · rename_i x hx
    exact lv_iload C.1 C.2.1 hd (hL.2.2.2 _ _ (nth_get L _ _ hx (fun z => by cases z)) (fun z => by cases z)).2 (k1 L _ S q μ ρ h H locs ls hH hB hl hL)
  · exact h.elim
theorem s_aload_n (C : Cx Z d j own p R s m args meth c) {k : Fin 4} (hd : decode j.2.1 pc = .ok (.aload_n k, 1)) (k1 : Sd Z j p e R s m args below meth c Q (pc + 1) t) : Sd Z j p e R s m args below meth c Q pc (tAload k.val t) := by
  intro L st S q μ ρ h H locs ls hH hB hl hL
  unfold tAload at h
  split at h
  · rename_i x hx
    exact lv_aload_n C.1 C.2.1 hd rfl (hL.2.2.2 _ _ (nth_get L _ _ hx (fun z => by cases z)) (fun z => by cases z)).2 (k1 L _ S q μ ρ h H locs ls hH hB hl hL)
  · rename_i x hx
    exact lv_aload_n C.1 C.2.1 hd rfl (hL.2.2.2 _ _ (nth_get L _ _ hx (fun z => by cases z)) (fun z => by cases z)).2 (k1 L _ S q μ ρ h H locs ls hH hB hl hL)
  · exact h.elim
theorem s_aload (C : Cx Z d j own p R s m args meth c) {k : Nat} (hd : decode j.2.1 pc = .ok (.aload k, 2)) (k1 : Sd Z j p e R s m args below meth c Q (pc + 2) t) : Sd Z j p e R s m args below meth c Q pc (tAload k t) := by
  intro L st S q μ ρ h H locs ls hH hB hl hL
  unfold tAload at h
  split at h
  · rename_i x hx
    exact lv_aload C.1 C.2.1 hd (hL.2.2.2 _ _ (nth_get L _ _ hx (fun z => by cases z)) (fun z => by cases z)).2 (k1 L _ S q μ ρ h H locs ls hH hB hl hL)
  · rename_i x hx
    exact lv_aload C.1 C.2.1 hd (hL.2.2.2 _ _ (nth_get L _ _ hx (fun z => by cases z)) (fun z => by cases z)).2 (k1 L _ S q μ ρ h H locs ls hH hB hl hL)
  · exact h.elim
def tIstore (i : Nat) (t : PT) : PT := fun L st S q μ ρ => match st with
  | .int x :: st => (match sset L i (.int x) with
    | some L' => t L' st S q μ ρ
    | none => False)
  | _ => False
def tAstore (i : Nat) (t : PT) : PT := fun L st S q μ ρ => match st with
  | .ref x :: st => (match sset L i (.ref x) with
    | some L' => t L' st S q μ ρ
    | none => False)
  | _ => False
def tIinc (i : Nat) (n : Int32) (t : PT) : PT := fun L st S q μ ρ => match nth L i with
  | .int x => (match sset L i (.int (x + n)) with
    | some L' => t L' st S q μ ρ
    | none => False)
  | _ => False
theorem s_istore_n (C : Cx Z d j own p R s m args meth c) {k : Fin 4} (hd : decode j.2.1 pc = .ok (.istore_n k, 1)) (k1 : Sd Z j p e R s m args below meth c Q (pc + 1) t) : Sd Z j p e R s m args below meth c Q pc (tIstore k.val t) := by
  intro L st S q μ ρ h H locs ls hH hB hl hL
  unfold tIstore at h
  split at h
  · rename_i x st
    split at h
    · rename_i L' hx
      have g := sset_get L _ _ L' hx
      exact lv_istore_n C.1 C.2.1 hd rfl hL.has (by have := hL.1; omega) rfl (fun ls' h' => k1 L' st S q μ ρ h H locs ls' hH hB hl (hL.put rfl hx h'))
    · exact h.elim
  · exact h.elim
theorem s_istore (C : Cx Z d j own p R s m args meth c) {k : Nat} (hd : decode j.2.1 pc = .ok (.istore k, 2)) (k1 : Sd Z j p e R s m args below meth c Q (pc + 2) t) : Sd Z j p e R s m args below meth c Q pc (tIstore k t) := by
  intro L st S q μ ρ h H locs ls hH hB hl hL
  unfold tIstore at h
  split at h
  · rename_i x st
    split at h
    · rename_i L' hx
      have g := sset_get L _ _ L' hx
      exact lv_istore C.1 C.2.1 hd hL.has (by have := hL.1; omega) rfl (fun ls' h' => k1 L' st S q μ ρ h H locs ls' hH hB hl (hL.put rfl hx h'))
    · exact h.elim
  · exact h.elim
theorem s_astore_n (C : Cx Z d j own p R s m args meth c) {k : Fin 4} (hd : decode j.2.1 pc = .ok (.astore_n k, 1)) (k1 : Sd Z j p e R s m args below meth c Q (pc + 1) t) : Sd Z j p e R s m args below meth c Q pc (tAstore k.val t) := by
  intro L st S q μ ρ h H locs ls hH hB hl hL
  unfold tAstore at h
  split at h
  · rename_i x st
    split at h
    · rename_i L' hx
      have g := sset_get L _ _ L' hx
      exact lv_astore_n C.1 C.2.1 hd rfl hL.has (by have := hL.1; omega) rfl (fun ls' h' => k1 L' st S q μ ρ h H locs ls' hH hB hl (hL.put rfl hx h'))
    · exact h.elim
  · exact h.elim
theorem s_astore (C : Cx Z d j own p R s m args meth c) {k : Nat} (hd : decode j.2.1 pc = .ok (.astore k, 2)) (k1 : Sd Z j p e R s m args below meth c Q (pc + 2) t) : Sd Z j p e R s m args below meth c Q pc (tAstore k t) := by
  intro L st S q μ ρ h H locs ls hH hB hl hL
  unfold tAstore at h
  split at h
  · rename_i x st
    split at h
    · rename_i L' hx
      have g := sset_get L _ _ L' hx
      exact lv_astore C.1 C.2.1 hd hL.has (by have := hL.1; omega) rfl (fun ls' h' => k1 L' st S q μ ρ h H locs ls' hH hB hl (hL.put rfl hx h'))
    · exact h.elim
  · exact h.elim
theorem s_iinc (C : Cx Z d j own p R s m args meth c) {k : Nat} {n : Int} {v : Int32} (hd : decode j.2.1 pc = .ok (.iinc k n, 3)) (hv : Int32.ofInt n = v) (k1 : Sd Z j p e R s m args below meth c Q (pc + 3) t) : Sd Z j p e R s m args below meth c Q pc (tIinc k v t) := by
  intro L st S q μ ρ h H locs ls hH hB hl hL
  unfold tIinc at h
  split at h
  · rename_i x hx
    split at h
    · rename_i L' hy
      have g := sset_get L _ _ L' hy
      have hm : (k, Value.int x) ∈ lvp Z.2.2.1 Z.2.2.2.1 L := by
        have h1 := nth_get L _ _ hx (fun z => by cases z)
        refine List.mem_filterMap.mpr ⟨k, List.mem_range.mpr (List.getElem?_eq_some_iff.mp h1).1, ?_⟩
        rw [h1]; simp [sV]
      obtain ⟨q0, hq0⟩ := List.getElem?_of_mem hm
      exact lv_iinc C.1 C.2.1 hd hL.has hq0 (by rw [hv]) (by have := hL.1; omega) rfl (fun ls' h' => k1 L' st S q μ ρ h H locs ls' hH hB hl (hL.put rfl hy h'))
    · exact h.elim
  · exact h.elim
def tConst (v : Int32) (t : PT) : PT := fun L st S q μ ρ => t L (.int v :: st) S q μ ρ
def tLconst (v : Int64) (t : PT) : PT := fun L st S q μ ρ => t L (.long v :: st) S q μ ρ
theorem s_iconst (C : Cx Z d j own p R s m args meth c) {n : Int} {v : Int32} (hd : decode j.2.1 pc = .ok (.iconst n, 1)) (hv : Int32.ofInt n = v) (k1 : Sd Z j p e R s m args below meth c Q (pc + 1) t) : Sd Z j p e R s m args below meth c Q pc (tConst v t) :=
  fun L st S q μ ρ h H locs ls hH hB hl hL => lv_iconst C.1 C.2.1 hd hv (k1 L _ S q μ ρ h H locs ls hH hB hl hL)
theorem s_bipush (C : Cx Z d j own p R s m args meth c) {n : Int} {v : Int32} (hd : decode j.2.1 pc = .ok (.bipush n, 2)) (hv : (Int8.ofInt n).toInt32 = v) (k1 : Sd Z j p e R s m args below meth c Q (pc + 2) t) : Sd Z j p e R s m args below meth c Q pc (tConst v t) :=
  fun L st S q μ ρ h H locs ls hH hB hl hL => lv_bipush C.1 C.2.1 hd hv (k1 L _ S q μ ρ h H locs ls hH hB hl hL)
theorem s_sipush (C : Cx Z d j own p R s m args meth c) {n : Int} {v : Int32} (hd : decode j.2.1 pc = .ok (.sipush n, 3)) (hv : (Int16.ofInt n).toInt32 = v) (k1 : Sd Z j p e R s m args below meth c Q (pc + 3) t) : Sd Z j p e R s m args below meth c Q pc (tConst v t) :=
  fun L st S q μ ρ h H locs ls hH hB hl hL => lv_sipush C.1 C.2.1 hd hv (k1 L _ S q μ ρ h H locs ls hH hB hl hL)
theorem s_ldc (C : Cx Z d j own p R s m args meth c) {n : Nat} {v : Int32} (hw : Cond.constant own n v ∈ lw_good) (hd : decode j.2.1 pc = .ok (.ldc n, 2)) (k1 : Sd Z j p e R s m args below meth c Q (pc + 2) t) : Sd Z j p e R s m args below meth c Q pc (tConst v t) :=
  fun L st S q μ ρ h H locs ls hH hB hl hL => lv_ldc C.1 C.2.1 C.2.2.2.1 (C.2.2.2.2.1 _ hw) hd (k1 L _ S q μ ρ h H locs ls hH hB hl hL)
theorem s_ldcw (C : Cx Z d j own p R s m args meth c) {n : Nat} {v : Int32} (hw : Cond.constant own n v ∈ lw_good) (hd : decode j.2.1 pc = .ok (.ldc_w n, 3)) (k1 : Sd Z j p e R s m args below meth c Q (pc + 3) t) : Sd Z j p e R s m args below meth c Q pc (tConst v t) :=
  fun L st S q μ ρ h H locs ls hH hB hl hL => lv_ldcw C.1 C.2.1 C.2.2.2.1 (C.2.2.2.2.1 _ hw) hd (k1 L _ S q μ ρ h H locs ls hH hB hl hL)
theorem s_lconst (C : Cx Z d j own p R s m args meth c) {n : Fin 2} {v : Int64} (hd : decode j.2.1 pc = .ok (.lconst n, 1)) (hv : Int64.ofNat (n : Nat) = v) (k1 : Sd Z j p e R s m args below meth c Q (pc + 1) t) : Sd Z j p e R s m args below meth c Q pc (tLconst v t) :=
  fun L st S q μ ρ h H locs ls hH hB hl hL => lv_lconst C.1 C.2.1 hd hv (k1 L _ S q μ ρ h H locs ls hH hB hl hL)
theorem s_ldc2 (C : Cx Z d j own p R s m args meth c) {n : Nat} {v : Int64} (hw : Cond.constantLong own n v ∈ lw_good) (hd : decode j.2.1 pc = .ok (.ldc2_w n, 3)) (k1 : Sd Z j p e R s m args below meth c Q (pc + 3) t) : Sd Z j p e R s m args below meth c Q pc (tLconst v t) :=
  fun L st S q μ ρ h H locs ls hH hB hl hL => lv_ldc2 C.1 C.2.1 C.2.2.2.1 (C.2.2.2.2.1 _ hw) hd (k1 L _ S q μ ρ h H locs ls hH hB hl hL)
def tBin (f : Int32 → Int32 → Int32) (t : PT) : PT := fun L st S q μ ρ => match st with
  | .int y :: .int x :: st => t L (.int (f x y) :: st) S q μ ρ
  | _ => False
def tUn (f : Int32 → Int32) (t : PT) : PT := fun L st S q μ ρ => match st with
  | .int x :: st => t L (.int (f x) :: st) S q μ ρ
  | _ => False
theorem s_iadd (C : Cx Z d j own p R s m args meth c) (hd : decode j.2.1 pc = .ok (.iadd, 1)) (k1 : Sd Z j p e R s m args below meth c Q (pc + 1) t) : Sd Z j p e R s m args below meth c Q pc (tBin (fun x y => x + y) t) := by
  intro L st S q μ ρ h H locs ls hH hB hl hL
  unfold tBin at h
  split at h
  · exact lv_iadd C.1 C.2.1 hd (k1 L _ S q μ ρ h H locs ls hH hB hl hL)
  · exact h.elim
theorem s_isub (C : Cx Z d j own p R s m args meth c) (hd : decode j.2.1 pc = .ok (.isub, 1)) (k1 : Sd Z j p e R s m args below meth c Q (pc + 1) t) : Sd Z j p e R s m args below meth c Q pc (tBin (fun x y => x - y) t) := by
  intro L st S q μ ρ h H locs ls hH hB hl hL
  unfold tBin at h
  split at h
  · exact lv_isub C.1 C.2.1 hd (k1 L _ S q μ ρ h H locs ls hH hB hl hL)
  · exact h.elim
theorem s_imul (C : Cx Z d j own p R s m args meth c) (hd : decode j.2.1 pc = .ok (.imul, 1)) (k1 : Sd Z j p e R s m args below meth c Q (pc + 1) t) : Sd Z j p e R s m args below meth c Q pc (tBin (fun x y => x * y) t) := by
  intro L st S q μ ρ h H locs ls hH hB hl hL
  unfold tBin at h
  split at h
  · exact lv_imul C.1 C.2.1 hd (k1 L _ S q μ ρ h H locs ls hH hB hl hL)
  · exact h.elim
theorem s_iand (C : Cx Z d j own p R s m args meth c) (hd : decode j.2.1 pc = .ok (.iand, 1)) (k1 : Sd Z j p e R s m args below meth c Q (pc + 1) t) : Sd Z j p e R s m args below meth c Q pc (tBin (fun x y => x &&& y) t) := by
  intro L st S q μ ρ h H locs ls hH hB hl hL
  unfold tBin at h
  split at h
  · exact lv_iand C.1 C.2.1 hd (k1 L _ S q μ ρ h H locs ls hH hB hl hL)
  · exact h.elim
theorem s_ior (C : Cx Z d j own p R s m args meth c) (hd : decode j.2.1 pc = .ok (.ior, 1)) (k1 : Sd Z j p e R s m args below meth c Q (pc + 1) t) : Sd Z j p e R s m args below meth c Q pc (tBin (fun x y => x ||| y) t) := by
  intro L st S q μ ρ h H locs ls hH hB hl hL
  unfold tBin at h
  split at h
  · exact lv_ior C.1 C.2.1 hd (k1 L _ S q μ ρ h H locs ls hH hB hl hL)
  · exact h.elim
theorem s_ixor (C : Cx Z d j own p R s m args meth c) (hd : decode j.2.1 pc = .ok (.ixor, 1)) (k1 : Sd Z j p e R s m args below meth c Q (pc + 1) t) : Sd Z j p e R s m args below meth c Q pc (tBin (fun x y => x ^^^ y) t) := by
  intro L st S q μ ρ h H locs ls hH hB hl hL
  unfold tBin at h
  split at h
  · exact lv_ixor C.1 C.2.1 hd (k1 L _ S q μ ρ h H locs ls hH hB hl hL)
  · exact h.elim
theorem s_ishl (C : Cx Z d j own p R s m args meth c) (hd : decode j.2.1 pc = .ok (.ishl, 1)) (k1 : Sd Z j p e R s m args below meth c Q (pc + 1) t) : Sd Z j p e R s m args below meth c Q pc (tBin (fun x y => x <<< (y &&& 31)) t) := by
  intro L st S q μ ρ h H locs ls hH hB hl hL
  unfold tBin at h
  split at h
  · exact lv_ishl C.1 C.2.1 hd (k1 L _ S q μ ρ h H locs ls hH hB hl hL)
  · exact h.elim
theorem s_ishr (C : Cx Z d j own p R s m args meth c) (hd : decode j.2.1 pc = .ok (.ishr, 1)) (k1 : Sd Z j p e R s m args below meth c Q (pc + 1) t) : Sd Z j p e R s m args below meth c Q pc (tBin (fun x y => x >>> (y &&& 31)) t) := by
  intro L st S q μ ρ h H locs ls hH hB hl hL
  unfold tBin at h
  split at h
  · exact lv_ishr C.1 C.2.1 hd (k1 L _ S q μ ρ h H locs ls hH hB hl hL)
  · exact h.elim
theorem s_iushr (C : Cx Z d j own p R s m args meth c) (hd : decode j.2.1 pc = .ok (.iushr, 1)) (k1 : Sd Z j p e R s m args below meth c Q (pc + 1) t) : Sd Z j p e R s m args below meth c Q pc (tBin (fun x y => (x.toUInt32 >>> (y.toUInt32 &&& Int32.toUInt32 31)).toInt32) t) := by
  intro L st S q μ ρ h H locs ls hH hB hl hL
  unfold tBin at h
  split at h
  · exact lv_iushr C.1 C.2.1 hd rfl (k1 L _ S q μ ρ h H locs ls hH hB hl hL)
  · exact h.elim
def tRem (t : PT) : PT := fun L st S q μ ρ => match st with
  | .int y :: .int x :: st => y ≠ 0 ∧ t L (.int (x - x / y * y) :: st) S q μ ρ
  | _ => False
theorem s_irem (C : Cx Z d j own p R s m args meth c) (hd : decode j.2.1 pc = .ok (.irem, 1)) (k1 : Sd Z j p e R s m args below meth c Q (pc + 1) t) : Sd Z j p e R s m args below meth c Q pc (tRem t) := by
  intro L st S q μ ρ h H locs ls hH hB hl hL
  unfold tRem at h
  split at h
  · exact lv_irem C.1 C.2.1 hd h.1 (k1 L _ S q μ ρ h.2 H locs ls hH hB hl hL)
  · exact h.elim
theorem s_ineg (C : Cx Z d j own p R s m args meth c) (hd : decode j.2.1 pc = .ok (.ineg, 1)) (k1 : Sd Z j p e R s m args below meth c Q (pc + 1) t) : Sd Z j p e R s m args below meth c Q pc (tUn (fun x => -x) t) := by
  intro L st S q μ ρ h H locs ls hH hB hl hL
  unfold tUn at h
  split at h
  · exact lv_ineg C.1 C.2.1 hd (k1 L _ S q μ ρ h H locs ls hH hB hl hL)
  · exact h.elim
theorem s_i2b (C : Cx Z d j own p R s m args meth c) (hd : decode j.2.1 pc = .ok (.i2b, 1)) (k1 : Sd Z j p e R s m args below meth c Q (pc + 1) t) : Sd Z j p e R s m args below meth c Q pc (tUn (fun x => x.toInt8.toInt32) t) := by
  intro L st S q μ ρ h H locs ls hH hB hl hL
  unfold tUn at h
  split at h
  · exact lv_i2b C.1 C.2.1 hd rfl (k1 L _ S q μ ρ h H locs ls hH hB hl hL)
  · exact h.elim
theorem s_i2c (C : Cx Z d j own p R s m args meth c) (hd : decode j.2.1 pc = .ok (.i2c, 1)) (k1 : Sd Z j p e R s m args below meth c Q (pc + 1) t) : Sd Z j p e R s m args below meth c Q pc (tUn (fun x => (x.toUInt32 % 65536).toInt32) t) := by
  intro L st S q μ ρ h H locs ls hH hB hl hL
  unfold tUn at h
  split at h
  · exact lv_i2c C.1 C.2.1 hd rfl (k1 L _ S q μ ρ h H locs ls hH hB hl hL)
  · exact h.elim
def tI2l (t : PT) : PT := fun L st S q μ ρ => match st with
  | .int x :: st => t L (.long x.toInt64 :: st) S q μ ρ
  | _ => False
theorem s_i2l (C : Cx Z d j own p R s m args meth c) (hd : decode j.2.1 pc = .ok (.i2l, 1)) (k1 : Sd Z j p e R s m args below meth c Q (pc + 1) t) : Sd Z j p e R s m args below meth c Q pc (tI2l t) := by
  intro L st S q μ ρ h H locs ls hH hB hl hL
  unfold tI2l at h
  split at h
  · exact lv_i2l C.1 C.2.1 hd rfl (k1 L _ S q μ ρ h H locs ls hH hB hl hL)
  · exact h.elim
def isC1 : Value → Bool := fun v => match v with
  | .int _ => true
  | .ref _ => true
  | _ => false
theorem isC1_cat {B : Nat} {X : Xt} {v : Value} (h : isC1 v = true) : (sV B X v).category = 1 := by cases v <;> first | rfl | cases h
def tDup (t : PT) : PT := fun L st S q μ ρ => match st with
  | .int x :: st => t L (.int x :: .int x :: st) S q μ ρ
  | .ref x :: st => t L (.ref x :: .ref x :: st) S q μ ρ
  | _ => False
theorem s_dup (C : Cx Z d j own p R s m args meth c) (hd : decode j.2.1 pc = .ok (.dup, 1)) (k1 : Sd Z j p e R s m args below meth c Q (pc + 1) t) : Sd Z j p e R s m args below meth c Q pc (tDup t) := by
  intro L st S q μ ρ h H locs ls hH hB hl hL
  unfold tDup at h
  split at h
  · exact lv_dup C.1 C.2.1 hd rfl (k1 L _ S q μ ρ h H locs ls hH hB hl hL)
  · exact lv_dup C.1 C.2.1 hd rfl (k1 L _ S q μ ρ h H locs ls hH hB hl hL)
  · exact h.elim
def tPop (t : PT) : PT := fun L st S q μ ρ => match st with
  | .int _ :: st => t L st S q μ ρ
  | .ref _ :: st => t L st S q μ ρ
  | _ => False
theorem s_pop (C : Cx Z d j own p R s m args meth c) (hd : decode j.2.1 pc = .ok (.pop, 1)) (k1 : Sd Z j p e R s m args below meth c Q (pc + 1) t) : Sd Z j p e R s m args below meth c Q pc (tPop t) := by
  intro L st S q μ ρ h H locs ls hH hB hl hL
  unfold tPop at h
  split at h
  · exact lv_pop C.1 C.2.1 hd rfl (k1 L _ S q μ ρ h H locs ls hH hB hl hL)
  · exact lv_pop C.1 C.2.1 hd rfl (k1 L _ S q μ ρ h H locs ls hH hB hl hL)
  · exact h.elim
def tDup2 (t : PT) : PT := fun L st S q μ ρ => match st with
  | .int x :: .ref y :: st => t L (.int x :: .ref y :: .int x :: .ref y :: st) S q μ ρ
  | .int x :: .int y :: st => t L (.int x :: .int y :: .int x :: .int y :: st) S q μ ρ
  | _ => False
theorem s_dup2 (C : Cx Z d j own p R s m args meth c) (hd : decode j.2.1 pc = .ok (.dup2, 1)) (k1 : Sd Z j p e R s m args below meth c Q (pc + 1) t) : Sd Z j p e R s m args below meth c Q pc (tDup2 t) := by
  intro L st S q μ ρ h H locs ls hH hB hl hL
  unfold tDup2 at h
  split at h
  · exact lv_dup2_11 C.1 C.2.1 hd rfl rfl (k1 L _ S q μ ρ h H locs ls hH hB hl hL)
  · exact lv_dup2_11 C.1 C.2.1 hd rfl rfl (k1 L _ S q μ ρ h H locs ls hH hB hl hL)
  · exact h.elim
def tIf (f : Int32 → Prop) (J t : PT) : PT := fun L st S q μ ρ => match st with
  | .int x :: st => (f x → J L st S q μ ρ) ∧ (¬ f x → t L st S q μ ρ)
  | _ => False
def tIf2 (f : Int32 → Int32 → Prop) (J t : PT) : PT := fun L st S q μ ρ => match st with
  | .int y :: .int x :: st => (f x y → J L st S q μ ρ) ∧ (¬ f x y → t L st S q μ ρ)
  | _ => False
def tGoto (J : PT) : PT := J
theorem s_if_eq (C : Cx Z d j own p R s m args meth c) {off : Int} {tgt : Nat} (hd : decode j.2.1 pc = .ok (.ifCond .eq off, 3)) (ht : (pc : Int) + off = (tgt : Int)) (kj : Sd Z j p e R s m args below meth c Q tgt J) (k1 : Sd Z j p e R s m args below meth c Q (pc + 3) t) : Sd Z j p e R s m args below meth c Q pc (tIf (fun x => x = 0) J t) := by
  intro L st S q μ ρ h H locs ls hH hB hl hL
  unfold tIf at h
  split at h
  · exact lv_if_eq C.1 C.2.1 hd ht (fun w => kj L _ S q μ ρ (h.1 w) H locs ls hH hB hl hL) (fun w => k1 L _ S q μ ρ (h.2 w) H locs ls hH hB hl hL)
  · exact h.elim
theorem s_icmp_eq (C : Cx Z d j own p R s m args meth c) {off : Int} {tgt : Nat} (hd : decode j.2.1 pc = .ok (.if_icmp .eq off, 3)) (ht : (pc : Int) + off = (tgt : Int)) (kj : Sd Z j p e R s m args below meth c Q tgt J) (k1 : Sd Z j p e R s m args below meth c Q (pc + 3) t) : Sd Z j p e R s m args below meth c Q pc (tIf2 (fun x y => x = y) J t) := by
  intro L st S q μ ρ h H locs ls hH hB hl hL
  unfold tIf2 at h
  split at h
  · exact lv_icmp_eq C.1 C.2.1 hd ht (fun w => kj L _ S q μ ρ (h.1 w) H locs ls hH hB hl hL) (fun w => k1 L _ S q μ ρ (h.2 w) H locs ls hH hB hl hL)
  · exact h.elim
theorem s_if_ne (C : Cx Z d j own p R s m args meth c) {off : Int} {tgt : Nat} (hd : decode j.2.1 pc = .ok (.ifCond .ne off, 3)) (ht : (pc : Int) + off = (tgt : Int)) (kj : Sd Z j p e R s m args below meth c Q tgt J) (k1 : Sd Z j p e R s m args below meth c Q (pc + 3) t) : Sd Z j p e R s m args below meth c Q pc (tIf (fun x => x ≠ 0) J t) := by
  intro L st S q μ ρ h H locs ls hH hB hl hL
  unfold tIf at h
  split at h
  · exact lv_if_ne C.1 C.2.1 hd ht (fun w => kj L _ S q μ ρ (h.1 w) H locs ls hH hB hl hL) (fun w => k1 L _ S q μ ρ (h.2 (fun z => z w)) H locs ls hH hB hl hL)
  · exact h.elim
theorem s_icmp_ne (C : Cx Z d j own p R s m args meth c) {off : Int} {tgt : Nat} (hd : decode j.2.1 pc = .ok (.if_icmp .ne off, 3)) (ht : (pc : Int) + off = (tgt : Int)) (kj : Sd Z j p e R s m args below meth c Q tgt J) (k1 : Sd Z j p e R s m args below meth c Q (pc + 3) t) : Sd Z j p e R s m args below meth c Q pc (tIf2 (fun x y => x ≠ y) J t) := by
  intro L st S q μ ρ h H locs ls hH hB hl hL
  unfold tIf2 at h
  split at h
  · exact lv_icmp_ne C.1 C.2.1 hd ht (fun w => kj L _ S q μ ρ (h.1 w) H locs ls hH hB hl hL) (fun w => k1 L _ S q μ ρ (h.2 (fun z => z w)) H locs ls hH hB hl hL)
  · exact h.elim
theorem s_if_lt (C : Cx Z d j own p R s m args meth c) {off : Int} {tgt : Nat} (hd : decode j.2.1 pc = .ok (.ifCond .lt off, 3)) (ht : (pc : Int) + off = (tgt : Int)) (kj : Sd Z j p e R s m args below meth c Q tgt J) (k1 : Sd Z j p e R s m args below meth c Q (pc + 3) t) : Sd Z j p e R s m args below meth c Q pc (tIf (fun x => x < 0) J t) := by
  intro L st S q μ ρ h H locs ls hH hB hl hL
  unfold tIf at h
  split at h
  · exact lv_if_lt C.1 C.2.1 hd ht (fun w => kj L _ S q μ ρ (h.1 w) H locs ls hH hB hl hL) (fun w => k1 L _ S q μ ρ (h.2 w) H locs ls hH hB hl hL)
  · exact h.elim
theorem s_icmp_lt (C : Cx Z d j own p R s m args meth c) {off : Int} {tgt : Nat} (hd : decode j.2.1 pc = .ok (.if_icmp .lt off, 3)) (ht : (pc : Int) + off = (tgt : Int)) (kj : Sd Z j p e R s m args below meth c Q tgt J) (k1 : Sd Z j p e R s m args below meth c Q (pc + 3) t) : Sd Z j p e R s m args below meth c Q pc (tIf2 (fun x y => x < y) J t) := by
  intro L st S q μ ρ h H locs ls hH hB hl hL
  unfold tIf2 at h
  split at h
  · exact lv_icmp_lt C.1 C.2.1 hd ht (fun w => kj L _ S q μ ρ (h.1 w) H locs ls hH hB hl hL) (fun w => k1 L _ S q μ ρ (h.2 w) H locs ls hH hB hl hL)
  · exact h.elim
theorem s_if_ge (C : Cx Z d j own p R s m args meth c) {off : Int} {tgt : Nat} (hd : decode j.2.1 pc = .ok (.ifCond .ge off, 3)) (ht : (pc : Int) + off = (tgt : Int)) (kj : Sd Z j p e R s m args below meth c Q tgt J) (k1 : Sd Z j p e R s m args below meth c Q (pc + 3) t) : Sd Z j p e R s m args below meth c Q pc (tIf (fun x => 0 ≤ x) J t) := by
  intro L st S q μ ρ h H locs ls hH hB hl hL
  unfold tIf at h
  split at h
  · exact lv_if_ge C.1 C.2.1 hd ht (fun w => kj L _ S q μ ρ (h.1 w) H locs ls hH hB hl hL) (fun w => k1 L _ S q μ ρ (h.2 w) H locs ls hH hB hl hL)
  · exact h.elim
theorem s_icmp_ge (C : Cx Z d j own p R s m args meth c) {off : Int} {tgt : Nat} (hd : decode j.2.1 pc = .ok (.if_icmp .ge off, 3)) (ht : (pc : Int) + off = (tgt : Int)) (kj : Sd Z j p e R s m args below meth c Q tgt J) (k1 : Sd Z j p e R s m args below meth c Q (pc + 3) t) : Sd Z j p e R s m args below meth c Q pc (tIf2 (fun x y => y ≤ x) J t) := by
  intro L st S q μ ρ h H locs ls hH hB hl hL
  unfold tIf2 at h
  split at h
  · exact lv_icmp_ge C.1 C.2.1 hd ht (fun w => kj L _ S q μ ρ (h.1 w) H locs ls hH hB hl hL) (fun w => k1 L _ S q μ ρ (h.2 w) H locs ls hH hB hl hL)
  · exact h.elim
theorem s_if_gt (C : Cx Z d j own p R s m args meth c) {off : Int} {tgt : Nat} (hd : decode j.2.1 pc = .ok (.ifCond .gt off, 3)) (ht : (pc : Int) + off = (tgt : Int)) (kj : Sd Z j p e R s m args below meth c Q tgt J) (k1 : Sd Z j p e R s m args below meth c Q (pc + 3) t) : Sd Z j p e R s m args below meth c Q pc (tIf (fun x => 0 < x) J t) := by
  intro L st S q μ ρ h H locs ls hH hB hl hL
  unfold tIf at h
  split at h
  · exact lv_if_gt C.1 C.2.1 hd ht (fun w => kj L _ S q μ ρ (h.1 w) H locs ls hH hB hl hL) (fun w => k1 L _ S q μ ρ (h.2 w) H locs ls hH hB hl hL)
  · exact h.elim
theorem s_icmp_gt (C : Cx Z d j own p R s m args meth c) {off : Int} {tgt : Nat} (hd : decode j.2.1 pc = .ok (.if_icmp .gt off, 3)) (ht : (pc : Int) + off = (tgt : Int)) (kj : Sd Z j p e R s m args below meth c Q tgt J) (k1 : Sd Z j p e R s m args below meth c Q (pc + 3) t) : Sd Z j p e R s m args below meth c Q pc (tIf2 (fun x y => y < x) J t) := by
  intro L st S q μ ρ h H locs ls hH hB hl hL
  unfold tIf2 at h
  split at h
  · exact lv_icmp_gt C.1 C.2.1 hd ht (fun w => kj L _ S q μ ρ (h.1 w) H locs ls hH hB hl hL) (fun w => k1 L _ S q μ ρ (h.2 w) H locs ls hH hB hl hL)
  · exact h.elim
theorem s_if_le (C : Cx Z d j own p R s m args meth c) {off : Int} {tgt : Nat} (hd : decode j.2.1 pc = .ok (.ifCond .le off, 3)) (ht : (pc : Int) + off = (tgt : Int)) (kj : Sd Z j p e R s m args below meth c Q tgt J) (k1 : Sd Z j p e R s m args below meth c Q (pc + 3) t) : Sd Z j p e R s m args below meth c Q pc (tIf (fun x => x ≤ 0) J t) := by
  intro L st S q μ ρ h H locs ls hH hB hl hL
  unfold tIf at h
  split at h
  · exact lv_if_le C.1 C.2.1 hd ht (fun w => kj L _ S q μ ρ (h.1 w) H locs ls hH hB hl hL) (fun w => k1 L _ S q μ ρ (h.2 w) H locs ls hH hB hl hL)
  · exact h.elim
theorem s_icmp_le (C : Cx Z d j own p R s m args meth c) {off : Int} {tgt : Nat} (hd : decode j.2.1 pc = .ok (.if_icmp .le off, 3)) (ht : (pc : Int) + off = (tgt : Int)) (kj : Sd Z j p e R s m args below meth c Q tgt J) (k1 : Sd Z j p e R s m args below meth c Q (pc + 3) t) : Sd Z j p e R s m args below meth c Q pc (tIf2 (fun x y => x ≤ y) J t) := by
  intro L st S q μ ρ h H locs ls hH hB hl hL
  unfold tIf2 at h
  split at h
  · exact lv_icmp_le C.1 C.2.1 hd ht (fun w => kj L _ S q μ ρ (h.1 w) H locs ls hH hB hl hL) (fun w => k1 L _ S q μ ρ (h.2 w) H locs ls hH hB hl hL)
  · exact h.elim
theorem s_goto (C : Cx Z d j own p R s m args meth c) {off : Int} {tgt : Nat} (hd : decode j.2.1 pc = .ok (.goto off, 3)) (ht : (pc : Int) + off = (tgt : Int)) (kj : Sd Z j p e R s m args below meth c Q tgt J) : Sd Z j p e R s m args below meth c Q pc (tGoto J) :=
  fun L st S q μ ρ h H locs ls hH hB hl hL => lv_goto C.1 C.2.1 hd ht (kj L st S q μ ρ h H locs ls hH hB hl hL)
def swc (cs : List (Int32 × PT)) (dflt : PT) (x : Int32) : PT := fun L st S q μ ρ => match cs with
  | [] => dflt L st S q μ ρ
  | (k, J) :: cs => (x = k → J L st S q μ ρ) ∧ (x ≠ k → swc cs dflt x L st S q μ ρ)
def tSw (cs : List (Int32 × PT)) (dflt : PT) : PT := fun L st S q μ ρ => match st with
  | .int x :: st => swc cs dflt x L st S q μ ρ
  | _ => False
theorem swc_in : ∀ (cs : List (Int32 × PT)) (dflt : PT) (x : Int32) (L st : List Value) (S : Sh) (q : Nat × Nat) (μ : Mi) (ρ : Mr), swc cs dflt x L st S q μ ρ →
    (∃ (i : Nat) (J : PT), cs[i]? = some (x, J) ∧ J L st S q μ ρ) ∨ ((∀ r ∈ cs, x ≠ r.1) ∧ dflt L st S q μ ρ) := by
  intro cs
  induction cs with
  | nil => intro dflt x L st S q μ ρ h; exact Or.inr ⟨fun r hr => absurd hr List.not_mem_nil, h⟩
  | cons a cs ih =>
    intro dflt x L st S q μ ρ h
    obtain ⟨k, J⟩ := a
    by_cases hx : x = k
    · subst hx; exact Or.inl ⟨0, J, rfl, h.1 rfl⟩
    · rcases ih dflt x L st S q μ ρ (h.2 hx) with ⟨i, J', h1, h2⟩ | ⟨h1, h2⟩
      · exact Or.inl ⟨i + 1, J', by simpa using h1, h2⟩
      · exact Or.inr ⟨fun r hr => (List.mem_cons.mp hr).elim (fun z => by rw [z]; exact hx) (h1 r), h2⟩
/-- a table: its cases are lo, lo + 1 .. -/
theorem s_tsw (C : Cx Z d j own p R s m args meth c) {df lo hi : Int} {offs : Array Int} {len tgt : Nat} {cs : List (Int32 × PT)} (hd : decode j.2.1 pc = .ok (.tableswitch df lo hi offs, len)) (ht : (pc : Int) + df = (tgt : Int)) (kd : Sd Z j p e R s m args below meth c Q tgt J)
    (hk : ∀ (i : Nat) (r : Int32 × PT), cs[i]? = some r → ¬ r.1.toInt < lo ∧ ¬ hi < r.1.toInt ∧ ∃ (off : Int) (tg : Nat), offs[(r.1.toInt - lo).toNat]? = some off ∧ (pc : Int) + off = (tg : Int) ∧ Sd Z j p e R s m args below meth c Q tg r.2)
    (ho : ∀ x : Int32, (∀ r ∈ cs, x ≠ r.1) → x.toInt < lo ∨ hi < x.toInt) : Sd Z j p e R s m args below meth c Q pc (tSw cs J) := by
  intro L st S q μ ρ h H locs ls hH hB hl hL
  unfold tSw at h
  split at h
  · rename_i x st
    rcases swc_in cs J x L st S q μ ρ h with ⟨i, J', h1, h2⟩ | ⟨h1, h2⟩
    · obtain ⟨g1, g2, off, tg, g3, g4, g5⟩ := hk i _ h1
      exact lv_tableIn C.1 C.2.1 hd g1 g2 g3 g4 (g5 L st S q μ ρ h2 H locs ls hH hB hl hL)
    · exact lv_tableOut C.1 C.2.1 hd (ho x h1) ht (kd L st S q μ ρ h2 H locs ls hH hB hl hL)
  · exact h.elim
theorem s_lsw (C : Cx Z d j own p R s m args meth c) {df : Int} {ps : Array (Int × Int)} {len : Nat} {cs : List (Int32 × PT)} (hd : decode j.2.1 pc = .ok (.lookupswitch df ps, len)) (hp : (ps.toList.zip (ps.toList.drop 1)).all (fun (a, next) => a.1 < next.1) = true)
    (tgt : Nat) (ht : (pc : Int) + df = (tgt : Int)) (kd : Sd Z j p e R s m args below meth c Q tgt J)
    (hk : ∀ (i : Nat) (r : Int32 × PT), cs[i]? = some r → ∃ (off : Int) (tg : Nat), Op.lookupswitch.offset ps.toList df r.1.toInt = off ∧ (pc : Int) + off = (tg : Int) ∧ Sd Z j p e R s m args below meth c Q tg r.2)
    (ho : ∀ x : Int32, (∀ r ∈ cs, x ≠ r.1) → Op.lookupswitch.offset ps.toList df x.toInt = df) : Sd Z j p e R s m args below meth c Q pc (tSw cs J) := by
  intro L st S q μ ρ h H locs ls hH hB hl hL
  unfold tSw at h
  split at h
  · rename_i x st
    rcases swc_in cs J x L st S q μ ρ h with ⟨i, J', h1, h2⟩ | ⟨h1, h2⟩
    · obtain ⟨off, tg, g3, g4, g5⟩ := hk i _ h1
      exact lv_lookup C.1 C.2.1 hd hp g3 g4 (g5 L st S q μ ρ h2 H locs ls hH hB hl hL)
    · exact lv_lookup C.1 C.2.1 hd hp (ho x h1) ht (kd L st S q μ ρ h2 H locs ls hH hB hl hL)
  · exact h.elim
end Steps
