/-! ===== arrays, new cells ===== -/
theorem ne_up {B a b : Nat} (ha : 1 ≤ a) (hb : b ≤ B) : b ≠ B + a := by omega
section Arr
variable {Z : Zt} {d : Nat} {j : Jm} {own : String} {p : Program} {e : Env} {R : Room} {s : State} {m : MethodId} {args : Array Value} {below : List Frame} {meth : Method} {c : Code} {Q : State → Prop} {pc : Nat} {t J : PT}
/-- loads of numbers: kind 20 int, 21 byte, 22 boolean -/
def tAld (k : Nat) (t : PT) : PT := fun L st S q μ ρ => match st with
  | .int i :: .ref a :: st => (S.2 a).1 = k ∧ inb i (S.2 a).2 ∧ t L (.int (μ a i.toNatClampNeg) :: st) S q μ ρ
  | _ => False
theorem avv_i {B k : Nat} (hk : k < 30) (x : Int32) (a : Nat) : avv B k x a = .int x := by simp [avv, hk]
theorem s_iald (C : Cx Z d j own p R s m args meth c) (hd : decode j.2.1 pc = .ok (.iaload, 1)) (k1 : Sd Z j p e R s m args below meth c Q (pc + 1) t) : Sd Z j p e R s m args below meth c Q pc (tAld 20 t) := by
  intro L st S q μ ρ h H locs ls hH hB hl hL
  unfold tAld at h
  split at h
  · rename_i i a st
    obtain ⟨h1, h2, h3⟩ := h
    obtain ⟨-, h4⟩ := hH.arr h1 rfl
    have hlt : i.toNatClampNeg < (S.2 a).2 := Nat.not_le.mp fun q => h2 (Or.inr q)
    refine W.iald C.1 C.2.1 (v := .int (μ a i.toNatClampNeg)) h4 ((C.2.2.2.2.2.2.2.1.2.1 20 rfl).1 _ _) (fun q => by cases q) (by rw [arrV_size]; exact h2) (by rw [arrV_read _ _ hlt]; rfl) rfl rfl hd (k1 L _ S q μ ρ h3 H locs ls hH hB hl hL)
  · exact h.elim
theorem s_bald (C : Cx Z d j own p R s m args meth c) (hd : decode j.2.1 pc = .ok (.baload, 1)) (k1 : Sd Z j p e R s m args below meth c Q (pc + 1) t) : Sd Z j p e R s m args below meth c Q pc (tAld 21 t) := by
  intro L st S q μ ρ h H locs ls hH hB hl hL
  unfold tAld at h
  split at h
  · rename_i i a st
    obtain ⟨h1, h2, h3⟩ := h
    obtain ⟨-, h4⟩ := hH.arr h1 rfl
    have hlt : i.toNatClampNeg < (S.2 a).2 := Nat.not_le.mp fun q => h2 (Or.inr q)
    refine W.bald C.1 C.2.1 (v := .int (μ a i.toNatClampNeg)) h4 ((C.2.2.2.2.2.2.2.1.2.1 21 rfl).1 _ _) (fun q => by cases q) (by rw [arrV_size]; exact h2) (by rw [arrV_read _ _ hlt]; rfl) rfl rfl hd (k1 L _ S q μ ρ h3 H locs ls hH hB hl hL)
  · exact h.elim
theorem s_zald (C : Cx Z d j own p R s m args meth c) (hd : decode j.2.1 pc = .ok (.baload, 1)) (k1 : Sd Z j p e R s m args below meth c Q (pc + 1) t) : Sd Z j p e R s m args below meth c Q pc (tAld 22 t) := by
  intro L st S q μ ρ h H locs ls hH hB hl hL
  unfold tAld at h
  split at h
  · rename_i i a st
    obtain ⟨h1, h2, h3⟩ := h
    obtain ⟨-, h4⟩ := hH.arr h1 rfl
    have hlt : i.toNatClampNeg < (S.2 a).2 := Nat.not_le.mp fun q => h2 (Or.inr q)
    refine W.zald C.1 C.2.1 (v := .int (μ a i.toNatClampNeg)) h4 ((C.2.2.2.2.2.2.2.1.2.1 22 rfl).1 _ _) (fun q => by cases q) (by rw [arrV_size]; exact h2) (by rw [arrV_read _ _ hlt]; rfl) rfl rfl hd (k1 L _ S q μ ρ h3 H locs ls hH hB hl hL)
  · exact h.elim
/-- a load of a reference -/
def tAldR (k : Nat) (t : PT) : PT := fun L st S q μ ρ => match st with
  | .int i :: .ref a :: st => (S.2 a).1 = k ∧ inb i (S.2 a).2 ∧ ρ a i.toNatClampNeg ≠ 0 ∧ t L (.ref (ρ a i.toNatClampNeg) :: st) S q μ ρ
  | _ => False
theorem s_aald (C : Cx Z d j own p R s m args meth c) {k : Nat} (hk : (aOK k && (decide (30 ≤ k) && (aTy k).isReference)) = true) (hd : decode j.2.1 pc = .ok (.aaload, 1)) (k1 : Sd Z j p e R s m args below meth c Q (pc + 1) t) : Sd Z j p e R s m args below meth c Q pc (tAldR k t) := by
  simp only [Bool.and_eq_true, decide_eq_true_eq] at hk
  intro L st S q μ ρ h H locs ls hH hB hl hL
  unfold tAldR at h
  split at h
  · rename_i i a st
    obtain ⟨h1, h2, h5, h3⟩ := h
    obtain ⟨-, h4⟩ := hH.arr h1 hk.1
    have hlt : i.toNatClampNeg < (S.2 a).2 := Nat.not_le.mp fun q => h2 (Or.inr q)
    refine W.aald C.1 C.2.1 (v := .ref (Z.2.2.1 + ρ a i.toNatClampNeg)) (ty := aTy k) h4 ((C.2.2.2.2.2.2.2.1.2.1 k hk.1).1 _ _) hk.2.2 (fun q => by cases q) (by rw [arrV_size]; exact h2) (by rw [arrV_read _ _ hlt]; simp [avv, rv, h5, Nat.not_lt.mpr hk.2.1]) rfl rfl hd (k1 L _ S q μ ρ h3 H locs ls hH hB hl hL)
  · exact h.elim
def tAlen (t : PT) : PT := fun L st S q μ ρ => match st with
  | .ref a :: st => aOK (S.2 a).1 = true ∧ t L (.int (Int32.ofNat (S.2 a).2) :: st) S q μ ρ
  | _ => False
theorem s_alen (C : Cx Z d j own p R s m args meth c) (hd : decode j.2.1 pc = .ok (.arraylength, 1)) (k1 : Sd Z j p e R s m args below meth c Q (pc + 1) t) : Sd Z j p e R s m args below meth c Q pc (tAlen t) := by
  intro L st S q μ ρ h H locs ls hH hB hl hL
  unfold tAlen at h
  split at h
  · rename_i a st
    obtain ⟨h1, h3⟩ := h
    obtain ⟨-, h4⟩ := hH.arr rfl h1
    exact W.alen C.1 C.2.1 (ty := aTy (S.2 a).1) h4 ((C.2.2.2.2.2.2.2.1.2.1 _ h1).1 _ _) (by rw [arrV_size]) rfl rfl hd (k1 L _ S q μ ρ h3 H locs ls hH hB hl hL)
  · exact h.elim
/-- stores of numbers -/
def tIast (t : PT) : PT := fun L st S q μ ρ => match st with
  | .int x :: .int i :: .ref a :: st => (S.2 a).1 = 20 ∧ inb i (S.2 a).2 ∧ t L st S q (upI μ a i.toNatClampNeg x) ρ
  | _ => False
def tBast (t : PT) : PT := fun L st S q μ ρ => match st with
  | .int x :: .int i :: .ref a :: st => (S.2 a).1 = 21 ∧ inb i (S.2 a).2 ∧ t L st S q (upI μ a i.toNatClampNeg x.toInt8.toInt32) ρ
  | _ => False
def tZast (t : PT) : PT := fun L st S q μ ρ => match st with
  | .int x :: .int i :: .ref a :: st => (S.2 a).1 = 22 ∧ inb i (S.2 a).2 ∧ t L st S q (upI μ a i.toNatClampNeg (x &&& 1)) ρ
  | _ => False
theorem ast_done {D : Dt} {B : Nat} {S : Sh} {μ : Mi} {ρ : Mr} {H H' : Heap} {a k i : Nat} {x : Int32} {cell : Cell} (hH : HR D B S μ ρ H) (hk : aOK k = true) (hk3 : k < 30) (h1 : (S.2 a).1 = k) (hc : cell = arrV (D.2.2 k) (S.2 a).2 (fun j => avv B k (μ a j) (ρ a j)))
    (e1 : H'[B + a]? = some (cell.setSlot i (.int x))) (e2 : H'.size = H.size) (e3 : ∀ q : Nat, q ≠ B + a → H'[q]? = H[q]?) : HR D B S (upI μ a i x) ρ H' := by
  refine hH.upd e2 e3 (fun b hb => upI_ne hb) (fun _ _ => rfl) (Or.inr ⟨by rw [h1]; exact hk, ?_⟩)
  rw [e1, hc, arrV_store, h1]
  congr 2
  funext q
  by_cases hq : q = i
  · subst hq; simp [updV, avv, hk3, upI]
  · simp [updV, avv, hk3, upI, hq]
theorem s_iast (C : Cx Z d j own p R s m args meth c) (hd : decode j.2.1 pc = .ok (.iastore, 1)) (k1 : Sd Z j p e R s m args below meth c Q (pc + 1) t) : Sd Z j p e R s m args below meth c Q pc (tIast t) := by
  intro L st S q μ ρ h H locs ls hH hB hl hL
  unfold tIast at h
  split at h
  · rename_i x i a st
    obtain ⟨h1, h2, h3⟩ := h
    obtain ⟨ha, h4⟩ := hH.arr h1 rfl
    refine W.iast C.1 C.2.1 h4 ((C.2.2.2.2.2.2.2.1.2.1 20 rfl).1 _ _) (fun q => by cases q) (by rw [arrV_size]; exact h2) rfl rfl hd fun H' e1 e2 e3 => ?_
    refine k1 L _ S q _ ρ h3 H' _ ls (ast_done hH rfl (by decide) h1 rfl e1 e2 e3) (fun b hb => by rw [e3 b (ne_up ha hb)]; exact hB b hb) ⟨fun y hy => ?_, hl.2⟩ hL
    rcases List.mem_append.mp hy with h | h
    · exact hl.1 y h
    · rw [List.mem_singleton.mp h]; show Z.2.2.1 < Z.2.2.1 + a; omega
  · exact h.elim
theorem s_bast (C : Cx Z d j own p R s m args meth c) (hd : decode j.2.1 pc = .ok (.bastore, 1)) (k1 : Sd Z j p e R s m args below meth c Q (pc + 1) t) : Sd Z j p e R s m args below meth c Q pc (tBast t) := by
  intro L st S q μ ρ h H locs ls hH hB hl hL
  unfold tBast at h
  split at h
  · rename_i x i a st
    obtain ⟨h1, h2, h3⟩ := h
    obtain ⟨ha, h4⟩ := hH.arr h1 rfl
    refine W.bast C.1 C.2.1 h4 ((C.2.2.2.2.2.2.2.1.2.1 21 rfl).1 _ _) (fun q => by cases q) (by rw [arrV_size]; exact h2) rfl rfl hd fun H' e1 e2 e3 => ?_
    refine k1 L _ S q _ ρ h3 H' _ ls (ast_done hH rfl (by decide) h1 rfl e1 e2 e3) (fun b hb => by rw [e3 b (ne_up ha hb)]; exact hB b hb) ⟨fun y hy => ?_, hl.2⟩ hL
    rcases List.mem_append.mp hy with h | h
    · exact hl.1 y h
    · rw [List.mem_singleton.mp h]; show Z.2.2.1 < Z.2.2.1 + a; omega
  · exact h.elim
theorem s_zast (C : Cx Z d j own p R s m args meth c) (hd : decode j.2.1 pc = .ok (.bastore, 1)) (k1 : Sd Z j p e R s m args below meth c Q (pc + 1) t) : Sd Z j p e R s m args below meth c Q pc (tZast t) := by
  intro L st S q μ ρ h H locs ls hH hB hl hL
  unfold tZast at h
  split at h
  · rename_i x i a st
    obtain ⟨h1, h2, h3⟩ := h
    obtain ⟨ha, h4⟩ := hH.arr h1 rfl
    refine W.zast C.1 C.2.1 h4 ((C.2.2.2.2.2.2.2.1.2.1 22 rfl).1 _ _) (fun q => by cases q) (by rw [arrV_size]; exact h2) rfl rfl hd fun H' e1 e2 e3 => ?_
    refine k1 L _ S q _ ρ h3 H' _ ls (ast_done hH rfl (by decide) h1 rfl e1 e2 e3) (fun b hb => by rw [e3 b (ne_up ha hb)]; exact hB b hb) ⟨fun y hy => ?_, hl.2⟩ hL
    rcases List.mem_append.mp hy with h | h
    · exact hl.1 y h
    · rw [List.mem_singleton.mp h]; show Z.2.2.1 < Z.2.2.1 + a; omega
  · exact h.elim
/-- a store of a reference: array kind 30 + cl -/
def tAast (cl : Nat) (t : PT) : PT := fun L st S q μ ρ => match st with
  | .ref x :: .int i :: .ref a :: st => (S.2 a).1 = 30 + cl ∧ inb i (S.2 a).2 ∧ (S.2 x).1 = cl ∧ t L st S q μ (upR ρ a i.toNatClampNeg x)
  | _ => False
theorem s_aast (C : Cx Z d j own p R s m args meth c) {cl : Nat} (hk : (aOK (30 + cl) && (cOK cl && decide (aTy (30 + cl) = .object (cR cl)))) = true) (hd : decode j.2.1 pc = .ok (.aastore, 1)) (k1 : Sd Z j p e R s m args below meth c Q (pc + 1) t) : Sd Z j p e R s m args below meth c Q pc (tAast cl t) := by
  simp only [Bool.and_eq_true, decide_eq_true_eq] at hk
  intro L st S q μ ρ h H locs ls hH hB hl hL
  unfold tAast at h
  split at h
  · rename_i x i a st
    obtain ⟨h1, h2, h5, h3⟩ := h
    obtain ⟨ha, h4⟩ := hH.arr h1 hk.1
    obtain ⟨hx1, -, cellV, g1, g2, g3, -⟩ := hH.obj (a := x) (cl := cl) (n := (S.2 x).2) (by rw [← h5]) hk.2.1
    have hlt : i.toNatClampNeg < (S.2 a).2 := Nat.not_le.mp fun q => h2 (Or.inr q)
    have h0 : ¬ i < 0 := fun q => h2 (Or.inl q)
    obtain ⟨hx, hb, hml, hown, hts, hr, hlo, hK, -⟩ := C
    have hcls := (hK.1 cl hk.2.1).2
    have hra := (hK.2.1 (30 + cl) hk.1).2
    rw [hk.2.2] at hra
    obtain ⟨kA, comp, k1', k2, k3, -⟩ := hra
    have hcomp : comp = Z.2.1.1 cl := Option.some.inj (k3.symm.trans hcls.1)
    subst hcomp
    obtain ⟨kC, hkC, -⟩ := hcls.2
    refine W.aast hx hb h4 (fun q h => by cases h) (fun h => by cases h) k1' k2 rfl hkC ⟨h0, by rw [arrV_size]; exact hlt⟩ g1 (fun q h => by rw [g3] at h; cases h) (by rw [g2]; exact hkC) (by rw [g2]; exact va_assign hcls) rfl rfl hd fun H' e1 e2 e3 => ?_
    refine k1 L _ S q μ _ h3 H' _ ls (hH.upd e2 e3 (fun _ _ => rfl) (fun b hb => upR_ne hb) (Or.inr ⟨by rw [h1]; exact hk.1, ?_⟩)) (fun b hb => by rw [e3 b (ne_up ha hb)]; exact hB b hb) ⟨fun y hy => ?_, hl.2⟩ hL
    · rw [e1, arrV_store, h1]
      congr 2
      funext q
      by_cases hq : q = i.toNatClampNeg
      · subst hq; simp [updV, avv, upR, rv, show ¬ 30 + cl < 30 by omega, Nat.ne_of_gt hx1]
      · simp [updV, avv, upR, hq]
    · rcases List.mem_append.mp hy with h | h
      · exact hl.1 y h
      · rw [List.mem_singleton.mp h]; show Z.2.2.1 < Z.2.2.1 + a; omega
  · exact h.elim
/-- a new object -/
def tNew (cl n mc ms : Nat) (t : PT) : PT := fun L st S q μ ρ =>
  q.1 + 1 ≤ mc ∧ q.2 + n ≤ ms ∧ t L (.ref S.1 :: st) (S.1 + 1, upK S.2 S.1 (cl, n)) (q.1 + 1, q.2 + n) (upF μ S.1 (fun _ => 0)) (upF ρ S.1 (fun _ => 0))
theorem s_new (C : Cx Z d j own p R s m args meth c) {cl n idx : Nat} (hn : (cOK cl && decide (n = cN cl)) = true) (hw1 : Cond.classLink own idx (cR cl) ∈ lw_good) (hw2 : Cond.instantiable (cR cl) n ∈ lw_good) (hw3 : Cond.initialized (cR cl) ∈ lw_good) (hd : decode j.2.1 pc = .ok (.new idx, 3))
    (k1 : Sd Z j p e R s m args below meth c Q (pc + 3) t) : Sd Z j p e R s m args below meth c Q pc (tNew cl n j.2.2.2.2.1 j.2.2.2.2.2 t) := by
  simp only [Bool.and_eq_true, decide_eq_true_eq] at hn
  obtain ⟨hc, hn⟩ := hn
  intro L st S q μ ρ h H locs ls hH hB hl hL
  obtain ⟨h1, h2, h3⟩ := h
  obtain ⟨hx, hb, hml, hown, hts, hr, hlo, hK, hE, hEO, hR, hnm⟩ := C
  have hKn := hK.1 cl hc
  refine W.newcK hx hb hown (hts _ hw1) (hts _ hw2) (hts _ hw3) rfl hd (by rw [hR]; exact h1) (by rw [hR]; exact h2) hKn.2.1 rfl fun H1 kC hkC e1 z1 o1 => ?_
  have hsz : H.size = Z.2.2.1 + S.1 := hH.1
  have hS1 := hH.2.1
  have hob := u_born (cTy cl) hts (c_in hc) hKn hkC e1 (c_ty hc)
  have key := k1 L _ _ _ _ _ h3 H1 locs ls (hH.push z1 o1 (Or.inl ⟨hc, hn, ?_⟩)) (fun b hb => by rw [o1 b (by omega)]; exact hB b hb) ⟨hl.1, by rw [hR]; exact h1, by rw [hR]; exact h2⟩ hL
  · have e2 : (Value.ref H.size : Value) = .ref (Z.2.2.1 + S.1) := by rw [hsz]
    show W p Z.1 e R s m args below meth c H1 locs (q.1 + 1) (q.2 + n) Q (F0 m (pc + 3) ls (.ref H.size :: st.map (sV Z.2.2.1 Z.2.2.2.1)))
    rw [e2]
    exact key
  · obtain ⟨cell, g1, g2, g3, g4⟩ := hob
    refine ⟨cell, g1, g2, g3, fun k hk => ?_⟩
    have hk' : k < cN cl := by rw [← hn]; exact hk
    rw [g4 k hk']
    exact congrArg some (dv_ok Z.2.2.1 hc hk')
def tNewa (k mc ms : Nat) (t : PT) : PT := fun L st S q μ ρ => match st with
  | .int n :: st => ¬ n < 0 ∧ n.toNatClampNeg ≤ 100000 ∧ q.1 + 1 ≤ mc ∧ q.2 + n.toNatClampNeg ≤ ms ∧ t L (.ref S.1 :: st) (S.1 + 1, upK S.2 S.1 (k, n.toNatClampNeg)) (q.1 + 1, q.2 + n.toNatClampNeg) (upF μ S.1 (fun _ => 0)) (upF ρ S.1 (fun _ => 0))
  | _ => False
theorem s_newa (C : Cx Z d j own p R s m args meth c) {k : Nat} {aty : ArrayType} (hk : (aOK k && (decide (k < 30) && (decide (newarray.typeOf aty = aTy k) && (decide (componentBytes (aTy k) ≤ 8) && decide (defaultValue (aTy k) = .int 0))))) = true) (hw1 : Cond.arrayClass (newarray.typeOf aty) ∈ lw_good)
    (hra : ∀ U cA, va_RA U cA (aTy k) → U.vm.findClass ("[" ++ (aTy k).toString) = some cA) (hd : decode j.2.1 pc = .ok (.newarray aty, 2)) (k1 : Sd Z j p e R s m args below meth c Q (pc + 2) t) : Sd Z j p e R s m args below meth c Q pc (tNewa k j.2.2.2.2.1 j.2.2.2.2.2 t) := by
  simp only [Bool.and_eq_true, decide_eq_true_eq] at hk
  obtain ⟨hk1, hk2, hk3, hk4, hk5⟩ := hk
  intro L st S q μ ρ h H locs ls hH hB hl hL
  unfold tNewa at h
  split at h
  · rename_i n st
    obtain ⟨h1, h2, h3, h4, h5⟩ := h
    obtain ⟨hx, hb, hml, hown, hts, hr, hlo, hK, hE, hEO, hR, hnm⟩ := C
    refine W.newa hx hb (hts _ hw1) rfl hd rfl h1 ?_ (by rw [hR]; exact h3) (by rw [hR]; exact h4) fun cA kA comp g1 g2 g3 => ?_
    · rw [hk3]
      exact Nat.le_trans (Nat.mul_le_mul h2 hk4) (by decide)
    · have hcA : cA = Z.2.1.2.2 k := by
        have e1 := hra s _ (hK.2.1 k hk1).2
        rw [hk3] at g1
        exact Option.some.inj (g1.symm.trans e1)
      subst hcA
      have hsz : H.size = Z.2.2.1 + S.1 := hH.1
      have hS1 := hH.2.1
      have o1 : ∀ q : Nat, q < H.size → (H.push { cls := Z.2.1.2.2 k, slots := Array.replicate n.toNatClampNeg (defaultValue (newarray.typeOf aty)), vm := .none })[q]? = H[q]? := fun q hq => by rw [Array.getElem?_push, if_neg (Nat.ne_of_lt hq)]
      have key := k1 L _ _ _ _ _ h5 _ locs ls (hH.push (K := (k, n.toNatClampNeg)) (f := fun _ => 0) (g := fun _ => 0) (H' := H.push { cls := Z.2.1.2.2 k, slots := Array.replicate n.toNatClampNeg (defaultValue (newarray.typeOf aty)), vm := .none }) (by simp) o1 (Or.inr ⟨hk1, ?_⟩)) (fun b hb => by rw [o1 b (by omega)]; exact hB b hb) ⟨hl.1, by rw [hR]; exact h3, by rw [hR]; exact h4⟩ hL
      · show W p Z.1 e R s m args below meth c _ locs (q.1 + 1) (q.2 + n.toNatClampNeg) Q (F0 m (pc + 2) ls (.ref H.size :: st.map (sV Z.2.2.1 Z.2.2.2.1)))
        have e2 : (Value.ref H.size : Value) = .ref (Z.2.2.1 + S.1) := by rw [hsz]
        rw [e2]
        exact key
      · show (H.push _)[H.size]? = _
        rw [Array.getElem?_push, if_pos rfl, arrV_new, hk3, hk5]
        congr 2
        funext q
        simp [avv, hk2]
  · exact h.elim
def tAnew (cl mc ms : Nat) (t : PT) : PT := fun L st S q μ ρ => match st with
  | .int n :: st => ¬ n < 0 ∧ n.toNatClampNeg ≤ 100000 ∧ q.1 + 1 ≤ mc ∧ q.2 + n.toNatClampNeg ≤ ms ∧ t L (.ref S.1 :: st) (S.1 + 1, upK S.2 S.1 (30 + cl, n.toNatClampNeg)) (q.1 + 1, q.2 + n.toNatClampNeg) (upF μ S.1 (fun _ => 0)) (upF ρ S.1 (fun _ => 0))
  | _ => False
theorem s_anew (C : Cx Z d j own p R s m args meth c) {cl idx : Nat} (hk : (aOK (30 + cl) && decide (aTy (30 + cl) = .object (cR cl))) = true) (hw1 : Cond.classLink own idx (cR cl) ∈ lw_good) (hw2 : Cond.arrayOver (.object (cR cl)) ∈ nest_ws)
    (hd : decode j.2.1 pc = .ok (.anewarray idx, 3)) (k1 : Sd Z j p e R s m args below meth c Q (pc + 3) t) : Sd Z j p e R s m args below meth c Q pc (tAnew cl j.2.2.2.2.1 j.2.2.2.2.2 t) := by
  simp only [Bool.and_eq_true, decide_eq_true_eq] at hk
  obtain ⟨hk1, hk2⟩ := hk
  intro L st S q μ ρ h H locs ls hH hB hl hL
  unfold tAnew at h
  split at h
  · rename_i n st
    obtain ⟨h1, h2, h3, h4, h5⟩ := h
    obtain ⟨hx, hb, hml, hown, hts, hr, hlo, hK, hE, hEO, hR, hnm⟩ := C
    refine W.anew hx hb hown (hts _ hw1) (va_AO.use (hK.2.2 _ hw2)) rfl hd rfl h1 (by omega) (by rw [hR]; exact h3) (by rw [hR]; exact h4) fun cA kA comp g1 g2 g3 g4 => ?_
    have hcA : cA = Z.2.1.2.2 (30 + cl) := by
      have e1 := (hK.2.1 _ hk1).2
      rw [hk2] at e1
      obtain ⟨_, _, _, _, _, e2⟩ := e1
      exact Option.some.inj (g1.symm.trans e2)
    subst hcA
    have hsz : H.size = Z.2.2.1 + S.1 := hH.1
    have hS1 := hH.2.1
    have o1 : ∀ q : Nat, q < H.size → (H.push { cls := Z.2.1.2.2 (30 + cl), slots := Array.replicate n.toNatClampNeg .null, vm := .none })[q]? = H[q]? := fun q hq => by rw [Array.getElem?_push, if_neg (Nat.ne_of_lt hq)]
    have key := k1 L _ _ _ _ _ h5 _ locs ls (hH.push (K := (30 + cl, n.toNatClampNeg)) (f := fun _ => 0) (g := fun _ => 0) (H' := H.push { cls := Z.2.1.2.2 (30 + cl), slots := Array.replicate n.toNatClampNeg .null, vm := .none }) (by simp) o1 (Or.inr ⟨hk1, ?_⟩)) (fun b hb => by rw [o1 b (by omega)]; exact hB b hb) ⟨hl.1, by rw [hR]; exact h3, by rw [hR]; exact h4⟩ hL
    · show W p Z.1 e R s m args below meth c _ locs (q.1 + 1) (q.2 + n.toNatClampNeg) Q (F0 m (pc + 3) ls (.ref H.size :: st.map (sV Z.2.2.1 Z.2.2.2.1)))
      have e2 : (Value.ref H.size : Value) = .ref (Z.2.2.1 + S.1) := by rw [hsz]
      rw [e2]
      exact key
    · show (H.push _)[H.size]? = _
      rw [Array.getElem?_push, if_pos rfl, arrV_new]
      congr 2
      funext q
      simp [avv, show ¬ 30 + cl < 30 by omega, rv]
  · exact h.elim
end Arr
