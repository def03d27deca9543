/-! ===== what lies outside: a text, tables, statics ===== -/
def wdS : String := "timeout beat set add read hand change compact stop start cut join come lose twice settle careful times "
def wdL : List Int32 := [116, 105, 109, 101, 111, 117, 116, 32, 98, 101, 97, 116, 32, 115, 101, 116, 32, 97, 100, 100, 32, 114, 101, 97, 100, 32, 104, 97, 110, 100, 32, 99, 104, 97, 110, 103, 101, 32, 99, 111, 109, 112, 97, 99, 116, 32, 115, 116, 111, 112, 32, 115, 116, 97, 114, 116, 32, 99, 117, 116, 32, 106, 111, 105, 110, 32, 99, 111, 109, 101, 32, 108, 111, 115, 101, 32, 116, 119, 105, 99, 101, 32, 115, 101, 116, 116, 108, 101, 32, 99, 97, 114, 101, 102, 117, 108, 32, 116, 105, 109, 101, 115, 32]
def wdT (j : Nat) : Int32 := wdL.getD j 0
def nmL : List Int32 := [1, 1, 3, 3, 2, 2, 2, 1, 1, 1, 2, 2, 1, 1, 1, 1, 1]
def nmT (j : Nat) : Int32 := nmL.getD j 0
def XEv (B : Nat) (X : Xt) (U : State) : Prop :=
  (va_Z "AgreedLog$Tape" "NUMBERS" "[I" (.ref (X 0).1) (fun a => B < a) U U.heap ∧ va_T .int (X 0).1 17 (fun j => .int (nmT j)) (fun a => B < a) U U.heap) ∧
  (vk_R "AgreedLog$Tape" 76 wdS (X 1).1 U ∧ va_O "java/lang/String" (X 1).1 (fun a => B < a) U U.heap ∧ va_OF "java/lang/String" "coder" "B" (.int 0) (X 1).1 (fun a => B < a) U U.heap ∧ va_OF "java/lang/String" "value" "[B" (.ref (X 2).1) (X 1).1 (fun a => B < a) U U.heap ∧ va_T .byte (X 2).1 103 (fun j => .int (wdT j)) (fun a => B < a) U U.heap) ∧
  va_Z "java/lang/String" "COMPACT_STRINGS" "Z" (.int 1) (fun a => B < a) U U.heap ∧ ∃ v, va_Z "jdk/internal/util/Preconditions" "SIOOBE_FORMATTER" "Ljava/util/function/BiFunction;" v (fun a => B < a) U U.heap ∧ (v = .null ∨ v = .ref (X 3).1)
theorem XEv_ok {B : Nat} {X : Xt} : EOK B (XEv B X) := by
  intro U V hW hH ⟨⟨a1, a2⟩, ⟨b1, b2, b3, b4, b5⟩, c1, v, d1, d2⟩
  have hq : ∀ a : Nat, a < U.heap.size → ¬ B < a → V.heap[a]? = U.heap[a]? := fun a _ h => hH a (by omega)
  have hv := hW.alike
  exact ⟨⟨(a1.moved hv).kept hq, (a2.moved hv).kept hq⟩, ⟨b1.warm hW, (b2.moved hv).kept hq, (b3.moved hv).kept hq, (b4.moved hv).kept hq, (b5.moved hv).kept hq⟩, (c1.moved hv).kept hq, v, (d1.moved hv).kept hq, d2⟩
def ZX (Z : Zt) : Prop := ∀ U, Z.2.2.2.2 U → XEv Z.2.2.1 Z.2.2.2.1 U
section Ext
variable {Z : Zt} {d : Nat} {j : Jm} {own : String} {p : Program} {e : Env} {R : Room} {s : State} {m : MethodId} {args : Array Value} {below : List Frame} {meth : Method} {c : Code} {Q : State → Prop} {pc : Nat} {t J : PT}
theorem hB_q {B : Nat} {H H0 : Heap} (hB : ∀ a : Nat, a ≤ B → H[a]? = H0[a]?) : ∀ a : Nat, a < H0.size → ¬ B < a → H[a]? = H0[a]? := fun a _ h => hB a (by omega)
def tPush (w : Value) (t : PT) : PT := fun L st S q μ ρ => t L (w :: st) S q μ ρ
theorem s_gets (C : Cx Z d j own p R s m args meth c) {Cn n dsc : String} {v w : Value} {idx : Nat} (hz : va_Z Cn n dsc v (fun a => Z.2.2.1 < a) s s.heap) (hv : v = sV Z.2.2.1 Z.2.2.2.1 w) (hw1 : Cond.fieldLink own idx Cn n dsc ∈ lw_good) (hd : decode j.2.1 pc = .ok (.getstatic idx, 3)) (k1 : Sd Z j p e R s m args below meth c Q (pc + 3) t) : Sd Z j p e R s m args below meth c Q pc (tPush w t) := by
  intro L st S q μ ρ h H locs ls hH hB hl hL
  obtain ⟨hx, hb, hml, hown, hts, hr, hlo, hK, hE, hEO, hR, hnm⟩ := C
  obtain ⟨cf, kf, fi, f, a, cell, h1, h2, h3, h4, h5, h6, h7, h8⟩ := hz.kept (hB_q hB)
  have key := k1 L (w :: st) S q μ ρ h H locs ls hH hB hl hL
  rw [List.map_cons, ← hv] at key
  exact W.gets hx hb hown (hts _ hw1) h1 h2 h3 h4 h5 (fun e => by rw [e] at h6; cases h6) h7 rfl hd key
/-- a static of which only this is known: it is null, or X 3 -/
def tPushF (t : PT) : PT := fun L st S q μ ρ => t L (.null :: st) S q μ ρ ∧ t L (.float 3 :: st) S q μ ρ
theorem s_getsF (C : Cx Z d j own p R s m args meth c) (hZ : ZX Z) {idx : Nat} (hw1 : Cond.fieldLink own idx "jdk/internal/util/Preconditions" "SIOOBE_FORMATTER" "Ljava/util/function/BiFunction;" ∈ lw_good) (hd : decode j.2.1 pc = .ok (.getstatic idx, 3)) (k1 : Sd Z j p e R s m args below meth c Q (pc + 3) t) : Sd Z j p e R s m args below meth c Q pc (tPushF t) := by
  intro L st S q μ ρ h H locs ls hH hB hl hL
  obtain ⟨v, hz, hv⟩ := (hZ s C.2.2.2.2.2.2.2.2.1).2.2.2
  rcases hv with hv | hv
  · exact s_gets (w := .null) C hz hv hw1 hd k1 L st S q μ ρ h.1 H locs ls hH hB hl hL
  · exact s_gets (w := .float 3) C hz hv hw1 hd k1 L st S q μ ρ h.2 H locs ls hH hB hl hL
theorem s_ldcS (C : Cx Z d j "AgreedLog$Tape" p R s m args meth c) (hZ : ZX Z) (hd : decode j.2.1 pc = .ok (.ldc 76, 2)) (k1 : Sd Z j p e R s m args below meth c Q (pc + 2) t) : Sd Z j p e R s m args below meth c Q pc (tPush (.float 1) t) := by
  intro L st S q μ ρ h H locs ls hH hB hl hL
  exact va_ldcS C.1 C.2.1 C.2.2.2.1 (hZ s C.2.2.2.2.2.2.2.2.1).2.1.1 hd (k1 L (.float 1 :: st) S q μ ρ h H locs ls hH hB hl hL)
/-- a field of what lies outside -/
def tGetX (k : UInt32) (w : Value) (t : PT) : PT := fun L st S q μ ρ => match st with
  | .float x :: st => x = k ∧ t L (w :: st) S q μ ρ
  | _ => False
theorem s_getX (C : Cx Z d j own p R s m args meth c) {k : UInt32} {n dsc : String} {v w : Value} {idx : Nat} (hz : va_OF "java/lang/String" n dsc v (Z.2.2.2.1 k).1 (fun a => Z.2.2.1 < a) s s.heap) (hv : v = sV Z.2.2.1 Z.2.2.2.1 w) (hw1 : Cond.fieldLink own idx "java/lang/String" n dsc ∈ lw_good) (hd : decode j.2.1 pc = .ok (.getfield idx, 3)) (k1 : Sd Z j p e R s m args below meth c Q (pc + 3) t) : Sd Z j p e R s m args below meth c Q pc (tGetX k w t) := by
  intro L st S q μ ρ h H locs ls hH hB hl hL
  unfold tGetX at h
  split at h
  · rename_i x st
    obtain ⟨rfl, h⟩ := h
    obtain ⟨hx, hb, hml, hown, hts, hr, hlo, hK, hE, hEO, hR, hnm⟩ := C
    obtain ⟨cf, k, fi, f, cell, h1, h2, h3, h4, h5, h6⟩ := hz.kept (hB_q hB)
    have key := k1 L (w :: st) S q μ ρ h H locs ls hH hB hl hL
    rw [List.map_cons, ← hv] at key
    exact W.getf hx hb hown (hts _ hw1) h1 h2 h3 h4 h5 rfl rfl hd key
  · exact h.elim
def tAlenX (k : UInt32) (n : Int32) (t : PT) : PT := fun L st S q μ ρ => match st with
  | .float x :: st => x = k ∧ t L (.int n :: st) S q μ ρ
  | _ => False
theorem s_alenX (C : Cx Z d j own p R s m args meth c) {k : UInt32} {ty : FieldType} {N : Nat} {f : Nat → Value} (hz : va_T ty (Z.2.2.2.1 k).1 N f (fun a => Z.2.2.1 < a) s s.heap) (hd : decode j.2.1 pc = .ok (.arraylength, 1)) (k1 : Sd Z j p e R s m args below meth c Q (pc + 1) t) : Sd Z j p e R s m args below meth c Q pc (tAlenX k (Int32.ofNat N) t) := by
  intro L st S q μ ρ h H locs ls hH hB hl hL
  unfold tAlenX at h
  split at h
  · rename_i x st
    obtain ⟨rfl, h⟩ := h
    obtain ⟨cell, h1, h2, h3, h4, h5, h6, h7⟩ := hz.kept (hB_q hB)
    exact W.alen C.1 C.2.1 h1 h2 h5 rfl rfl hd (k1 L _ S q μ ρ h H locs ls hH hB hl hL)
  · exact h.elim
def tLdX (k : UInt32) (N : Nat) (f : Nat → Int32) (t : PT) : PT := fun L st S q μ ρ => match st with
  | .int i :: .float x :: st => x = k ∧ inb i N ∧ t L (.int (f i.toNatClampNeg) :: st) S q μ ρ
  | _ => False
theorem s_ialdX (C : Cx Z d j own p R s m args meth c) {k : UInt32} {N : Nat} {f : Nat → Int32} (hz : va_T .int (Z.2.2.2.1 k).1 N (fun j => .int (f j)) (fun a => Z.2.2.1 < a) s s.heap) (hd : decode j.2.1 pc = .ok (.iaload, 1)) (k1 : Sd Z j p e R s m args below meth c Q (pc + 1) t) : Sd Z j p e R s m args below meth c Q pc (tLdX k N f t) := by
  intro L st S q μ ρ h H locs ls hH hB hl hL
  unfold tLdX at h
  split at h
  · rename_i i x st
    obtain ⟨rfl, hi, h⟩ := h
    obtain ⟨cell, h1, h2, h3, h4, h5, h6, h7⟩ := hz.kept (hB_q hB)
    have hlt : i.toNatClampNeg < N := Nat.not_le.mp fun q => hi (Or.inr q)
    exact W.iald C.1 C.2.1 h1 h2 h3 (fun q => hi (q.elim Or.inl (fun z => Or.inr (by omega)))) (h6 _ hlt) rfl rfl hd (k1 L _ S q μ ρ h H locs ls hH hB hl hL)
  · exact h.elim
theorem s_baldX (C : Cx Z d j own p R s m args meth c) {k : UInt32} {N : Nat} {f : Nat → Int32} (hz : va_T .byte (Z.2.2.2.1 k).1 N (fun j => .int (f j)) (fun a => Z.2.2.1 < a) s s.heap) (hd : decode j.2.1 pc = .ok (.baload, 1)) (k1 : Sd Z j p e R s m args below meth c Q (pc + 1) t) : Sd Z j p e R s m args below meth c Q pc (tLdX k N f t) := by
  intro L st S q μ ρ h H locs ls hH hB hl hL
  unfold tLdX at h
  split at h
  · rename_i i x st
    obtain ⟨rfl, hi, h⟩ := h
    obtain ⟨cell, h1, h2, h3, h4, h5, h6, h7⟩ := hz.kept (hB_q hB)
    have hlt : i.toNatClampNeg < N := Nat.not_le.mp fun q => hi (Or.inr q)
    exact W.bald C.1 C.2.1 h1 h2 h3 (fun q => hi (q.elim Or.inl (fun z => Or.inr (by omega)))) (h6 _ hlt) rfl rfl hd (k1 L _ S q μ ρ h H locs ls hH hB hl hL)
  · exact h.elim
def tBad : PT := fun _ _ _ _ _ _ => False
theorem s_bad : Sd Z j p e R s m args below meth c Q pc tBad := fun _ _ _ _ _ _ h => h.elim
/-- a return of a char, a byte -/
def tNret (ty : FieldType) (Rp : RT) : PT := fun _ st S _ μ ρ => match st with
  | [.int x] => narrow ty (.int x) = .int x ∧ Rp (some (.int x)) S μ ρ
  | _ => False
theorem s_nret (C : Cx Z d j own p R s m args meth c) {Rp : RT} {ty : FieldType} (hr : j.2.2.2.1 = some ty) (hd : decode j.2.1 pc = .ok (.ireturn, 1)) :
    Sd Z j p e R s m args below meth c (MQ below (QcS Z Rp) args s j.2.2.2.2.1 j.2.2.2.2.2 (fun a => Z.2.2.1 < a)) pc (tNret ty Rp) := by
  intro L st S q μ ρ h H locs ls hH hB hl hL
  unfold tNret at h
  split at h
  · obtain ⟨h4, h3⟩ := h
    have hR := C.2.2.2.2.2.2.2.2.2.2.1
    refine W.widen (k := j.2.2.2.2.1) (n := j.2.2.2.2.2) (by have := hl.2.1; rw [hR] at this; exact this) (by have := hl.2.2; rw [hR] at this; exact this) ?_
    exact W.zret (ty := ty) C.1 C.2.1 (by rw [C.2.2.2.2.2.1, hr]) h4 (fun t ht hW => ⟨some (.int _), S, μ, ρ, rfl, h3, by rw [ht]; exact hH, fun a ha => by rw [ht]; exact hB a ha⟩) (fun q hq => hl.1 q hq) hd C.2.2.2.2.2.2.1
  · exact h.elim
/-- invokevirtual, of the text -/
def tCallX (M : CT) (j2 : Jm) (n : Nat) (t : PT) : PT := fun L st S q μ ρ => match popN n [] st with
  | some (As, .float x :: rest) => x = 1 ∧ okR 8 rest ∧ M j2 (.float 1 :: As) S μ ρ (fun r S' μ' ρ' => t L (r.toList ++ rest) S' q μ' ρ')
  | _ => False
theorem s_callX (C : Cx Z d j own p R s m args meth c) (hZ : ZX Z) {j2 : Jm} {n idx : Nat} (hy : j2.1.cls = "java/lang/String") (hm : metaOK j2 n = true) (hz : j2.2.2.2.2 = (0, 0)) (hw1 : Cond.methodLink own idx j2.1 ∈ lw_good) (hw2 : Cond.instanceMethod j2.1 ∈ lw_good) (hw3 : Cond.selects "java/lang/String" j2.1 j2.1 ∈ lw_good)
    (hw4 : Cond.initialized "java/lang/String" ∈ lw_good) (hw5 : Cond.code j2.1 j2.2.1 j2.2.2.1 j2.2.2.2.1 ∈ lw_good) (hd : decode j.2.1 pc = .ok (.invokevirtual idx, 3))
    (k1 : Sd Z j p e R s m args below meth c Q (pc + 3) t) : Sd Z j p e R s m args below meth c Q pc (tCallX (MS Z d) j2 n t) := by
  simp only [metaOK, Bool.and_eq_true, decide_eq_true_eq] at hm
  intro L st S q μ ρ h H locs ls hH hB hl hL
  unfold tCallX at h
  split at h
  · rename_i As x rest hpop
    obtain ⟨rfl, h2, h5⟩ := h
    obtain ⟨hst, hlen⟩ := popN_0 hpop
    have CC := C
    obtain ⟨hx, hb, hml, hown, hts, hr, hlo, hK, hE, hEO, hR, hnm⟩ := C
    obtain ⟨cellB, g1, g2, g3, -⟩ := (hZ s hE).2.1.2.1.kept (hB_q hB)
    have hM := h5 hEO
    have hz1 : j2.2.2.2.2.1 = 0 := by rw [hz]
    have hz2 : j2.2.2.2.2.2 = 0 := by rw [hz]
    rw [hz1, hz2] at hM
    have hrm : q.1 + 0 ≤ R.cells ∧ q.2 + 0 ≤ R.slots := hl.2
    have run := va_runV (R := R) (C := "java/lang/String") (H := H) (locs := locs) (cells := q.1) (slots := q.2) (below := below) (e := e) (meth := meth) (As := As.map (sV Z.2.2.1 Z.2.2.2.1)) (rest := rest.map (sV Z.2.2.1 Z.2.2.2.1)) (b := (Z.2.2.2.1 1).1) (g := F0 m pc ls (st.map (sV Z.2.2.1 Z.2.2.2.1))) (index := idx) (n := n) (own := own) (Ts := lw_good) (nL := j.2.2.1) (cc := j.2.1) ⟨hx, hb, hml, hown, hts⟩ hM
      ⟨callB_of n hts (good_cons hw5) rfl hz1 hz2 (by rw [hy]; exact hts _ hw4) (hts _ hw1) ⟨hm.1, hm.2.1, hm.2.2.1⟩ (by rw [hR]; exact room_ok hm.2.2.2), hts _ hw2, hts _ hw3⟩
      ⟨PcS.blind Z _ S μ ρ hEO, ⟨cellB, g1, g2, g3⟩, fun U hU hW => ⟨rfl, by rw [hU]; exact hH, hK.warm hW, hEO s U hW (fun b hb => by rw [hU]; exact hB b hb) hE⟩⟩
      rfl (by rw [List.length_map]; exact hlen) (by show ls.size = _; exact hL.2.1) (by show st.map _ = _; rw [hst]; simp [sV]) (by show 2 * 0 + _ ≤ 8; rw [Nat.mul_zero, Nat.zero_add]; exact sV_map_len rest h2) hd hrm
    exact call_on CC rfl rfl hB hl hrm hL run k1
  · exact h.elim
end Ext
