/-! THE CLAIM OUT OF ONE WALK OF THE LAW'S BODY. Your part is whole_start (and what it stands on); all else here is the same for every law, but numbers. -/
def R_law : String := "AgreedLogLaw"
def lw_P (b : Addr) (xs : List Int32) (args : Array Value) (s : State) : Prop := args = #[.ref b] ∧ s.IntsAt b xs ∧ xs.length ≤ 3072 ∧ (Jvm.Cond.and given_1 narrow_1).before args s = true
def lw_Q (_ : Array Value) (s : State) (o : Outcome) (t : State) : Prop := o = .returned (some (.int 1)) ∧ Framed s o t [] 600000 7302250
def lw_Z (below : List Frame) (a : Array Value) (s : State) : State → Prop := fun t => ∃ o, t.status = .running ∧ Ended t below o ∧ lw_Q a s o t
/-- the law's own end, with 1 on the stack, nothing written that was there before, its room as the claim has it -/
theorem lw_ret {p : Program} {l : Launch} {e : Env} {s : State} {m : MethodId} {below : List Frame} {meth : Method} {c : Code} {b : Nat} (hx : p.tables.exec = Jvm.exec) (hb : c.code = code) (hr : meth.sig.returnType = ret) (hlocks : meth.locks = false) {pc : Nat} {H : Heap} {ls : Array Slot} (hdg : decode code pc = .ok (.ireturn, 1)) : W p l e room_1 s m #[Value.ref b] below meth c H [] 600000 7302250 (lw_Z below #[Value.ref b] s) (F0 m pc ls [.int 1]) := by
  intro T hT X
  obtain ⟨fs, hret, hrun, hended, hW, hframe⟩ := X.leave (v := some (.int 1)) (hlocks := hlocks) (fun h => by rw [hr] at h; cases h)
  have hmeth' : T.vm.method? m = some meth := X.method'
  refine ⟨T.setFrames fs, ?_, .returned (some (.int 1)), hrun, hended, rfl, ⟨_, rfl⟩, hW, hframe⟩
  jvm_step X.here [X.here.top, hx, hb, hdg, hmeth', hr, ret, narrow_b1]
  (try refine ⟨rfl, ?_⟩); (try refine ⟨rfl, ?_⟩)
  first | (intro acts; rw [hret _ acts rfl rfl rfl]) | rw [hret _ _ rfl rfl rfl]
  exact Steps.refl _
/-- what holds at the law's entry: the machine, the code, the tables' words (any of lw_tbl by 'hts w (by decide +kernel)'), the script of L ints xs at the cell b, what the Statement gives of the start (any of its parts by flat_of_before) -/
def lw_At (p : Program) (s : State) (m : MethodId) (meth : Method) (c : Code) (b L : Nat) (xs : Nat → Int32) : Prop :=
  p.tables.exec = Jvm.exec ∧ c.code = code ∧ meth.sig.returnType = ret ∧ c.maxLocals = 4 ∧ s.vm.findClass R_law = some m.cls ∧ (∀ w ∈ lw_tbl, w.before #[Value.ref b] s = true) ∧ va_X b L xs s s.heap ∧ b < s.heap.size ∧ meth.locks = false ∧ (Jvm.Cond.and given_1 narrow_1).before #[Value.ref b] s = true
/-! ===== the law's body: its steps ===== -/
/-- what holds in the law's body -/
def LwC (Z : Zt) (p : Program) (s : State) (m : MethodId) (meth : Method) (c : Code) (b L : Nat) (xs : Nat → Int32) : Prop :=
  p.tables.exec = Jvm.exec ∧ c.code = code ∧ c.maxLocals = 4 ∧ s.vm.findClass RL = some m.cls ∧ (∀ w ∈ lw_good, w.before #[Value.ref b] s = true) ∧ Kd Z.2.1 s ∧ Z.2.2.2.2 s ∧ EOK Z.2.2.1 Z.2.2.2.2 ∧ va_X b L xs s s.heap ∧ b < s.heap.size ∧ s.heap.size = Z.2.2.1 + 1 ∧ L ≤ 3072 ∧ meth.sig.returnType = ret ∧ meth.locks = false ∧ ZX Z
/-- a place of the law -/
def LwG (Z : Zt) (p : Program) (e : Env) (s : State) (m : MethodId) (b : Nat) (below : List Frame) (meth : Method) (c : Code) (pc : Nat) (i : Nat) (st : List Value) (S : Sh) (μ : Mi) (ρ : Mr) : Prop :=
  ∀ (H : Heap) (locs : List Loc) (ls : Array Slot), HR Z.2.1 Z.2.2.1 S μ ρ H → (∀ a : Nat, a ≤ Z.2.2.1 → H[a]? = s.heap[a]?) → (∀ x ∈ locs, Z.2.2.1 < x.base) → lv_has ls 4 [(0, .ref b), (1, .ref (Z.2.2.1 + 1)), (2, .ref (Z.2.2.1 + 2737)), (3, .int (nI i))] →
    W p Z.1 e room_1 s m #[Value.ref b] below meth c H locs 2747 114633 (lw_Z below #[Value.ref b] s) (F0 m pc ls (st.map (sV Z.2.2.1 Z.2.2.2.1)))
def adB (pc k : Nat) : Bool := decide (decode code pc = .ok (.aload_n 0, 1)) && (decide (decode code (pc + 1) = .ok (.iload_n 3, 1)) && (decide (decode code (pc + 2) = .ok (.iconst (k : Int), 1)) && (decide (decode code (pc + 3) = .ok (.iadd, 1)) && decide (decode code (pc + 4) = .ok (.iaload, 1)))))
def arB (pc : Nat) : Nat → Bool := fun n => match n with
  | 0 => true
  | n + 1 => arB pc n && adB (pc + 5 * n) (n + 1)
def aL (xs : Nat → Int32) (i : Nat) : Nat → List Value := fun n => match n with
  | 0 => []
  | n + 1 => aL xs i n ++ [.int (xs (i + (n + 1)))]
theorem aL_len {xs : Nat → Int32} {i : Nat} : ∀ n, (aL xs i n).length = n := by
  intro n
  induction n with
  | zero => rfl
  | succ n ih => show (aL xs i n ++ [_]).length = n + 1; rw [List.length_append, ih]; rfl
theorem ofI : ∀ k : Fin 6, Int32.ofInt (k.val : Int) = nI k.val := by decide
section Law1
variable {Z : Zt} {p : Program} {e : Env} {s : State} {m : MethodId} {below : List Frame} {meth : Method} {c : Code} {b L : Nat} {xs : Nat → Int32} {S : Sh} {μ : Mi} {ρ : Mr} {st : List Value} {pc i : Nat}
theorem LwS (C : LwC Z p s m meth c b L xs) {H : Heap} {locs : List Loc} (hH : HR Z.2.1 Z.2.2.1 S μ ρ H) (hB : ∀ a : Nat, a ≤ Z.2.2.1 → H[a]? = s.heap[a]?) (hl : ∀ x ∈ locs, Z.2.2.1 < x.base) : va_S (fun q : Nat => Z.2.2.1 < q) s.heap H locs := by
  have hz := C.2.2.2.2.2.2.2.2.2.2.1
  refine ⟨?_, fun q _ h => hB q (Nat.not_lt.mp h), hl⟩
  rw [hz, hH.1]
  have := hH.2.1
  omega
theorem LwB (C : LwC Z p s m meth c b L xs) : ¬ (fun q : Nat => Z.2.2.1 < q) b := by
  obtain ⟨-, -, -, -, -, -, -, -, -, h1, h2, -⟩ := C
  show ¬ Z.2.2.1 < b
  omega
theorem l_load (C : LwC Z p s m meth c b L xs) {k : Fin 4} {a : Nat} (hd : decode code pc = .ok (.aload_n k, 1)) (hk : (k = 1 ∧ a = 1) ∨ (k = 2 ∧ a = 2737)) (h : LwG Z p e s m b below meth c (pc + 1) i (.ref a :: st) S μ ρ) : LwG Z p e s m b below meth c pc i st S μ ρ := by
  intro H locs ls hH hB hl hL
  have := h H locs ls hH hB hl hL
  rcases hk with ⟨rfl, rfl⟩ | ⟨rfl, rfl⟩
  · exact lv_aload_n C.1 C.2.1 hd rfl (lv_at hL 1 rfl) this
  · exact lv_aload_n C.1 C.2.1 hd rfl (lv_at hL 2 rfl) this
theorem l_arg (C : LwC Z p s m meth c b L xs) {k : Nat} (hk : k < 6) (hi : i + k < L) (hd : adB pc k = true) (h : LwG Z p e s m b below meth c (pc + 5) i (.int (xs (i + k)) :: st) S μ ρ) : LwG Z p e s m b below meth c pc i st S μ ρ := by
  simp only [adB, Bool.and_eq_true, decide_eq_true_eq] at hd
  obtain ⟨d1, d2, d3, d4, d5⟩ := hd
  intro H locs ls hH hB hl hL
  have key := h H locs ls hH hB hl hL
  have hS := LwS C hH hB hl
  have hb := LwB C
  have hL2 := C.2.2.2.2.2.2.2.2.2.2.2.1
  refine lv_aload_n C.1 C.2.1 d1 rfl (lv_at hL 0 rfl) ?_
  refine lv_iload_n C.1 C.2.1 d2 rfl (lv_at hL 3 rfl) ?_
  refine lv_iconst (v := nI k) C.1 C.2.1 d3 (ofI ⟨k, hk⟩) ?_
  refine lv_iadd C.1 C.2.1 d4 ?_
  rw [nI_add]
  refine va_sld C.1 C.2.1 C.2.2.2.2.2.2.2.2.1 C.2.2.2.2.2.2.2.2.2.1 hb hS (nI_in hi (by omega)) d5 ?_
  rw [nI_clamp (by omega)]
  exact key
theorem l_args (C : LwC Z p s m meth c b L xs) : ∀ n : Nat, n < 6 → i + n < L → arB pc n = true → LwG Z p e s m b below meth c (pc + 5 * n) i ((aL xs i n).reverse ++ st) S μ ρ → LwG Z p e s m b below meth c pc i st S μ ρ := by
  intro n
  induction n with
  | zero => intro _ _ _ h; exact h
  | succ n ih =>
    intro hn hi hd h
    have hd2 : (arB pc n && adB (pc + 5 * n) (n + 1)) = true := hd
    rw [Bool.and_eq_true] at hd2
    refine ih (by omega) (by omega) hd2.1 (l_arg C (k := n + 1) hn hi hd2.2 ?_)
    have e1 : (aL xs i (n + 1)).reverse ++ st = .int (xs (i + (n + 1))) :: ((aL xs i n).reverse ++ st) := by
      show (aL xs i n ++ [_]).reverse ++ st = _
      simp
    rw [e1] at h
    exact h
theorem l_call (C : LwC Z p s m meth c b L xs) {j2 : Jm} {cl nf n idx a : Nat} {As rest : List Value} {Post : RT} (hc : cOK cl = true) (hy : j2.1.cls = cR cl) (hm : metaOK j2 n = true) (hz : j2.2.2.2.2 = (0, 0)) (hw1 : Cond.methodLink RL idx j2.1 ∈ lw_good) (hw2 : Cond.instanceMethod j2.1 ∈ lw_good) (hw3 : Cond.selects (cR cl) j2.1 j2.1 ∈ lw_good)
    (hw4 : Cond.initialized (cR cl) ∈ lw_good) (hw5 : Cond.code j2.1 j2.2.1 j2.2.2.1 j2.2.2.2.1 ∈ lw_good) (hd : decode code pc = .ok (.invokevirtual idx, 3)) (ha : S.2 a = (cl, nf)) (hn : As.length = n) (hr : okR 8 rest)
    (hM : MS Z 100 j2 (.ref a :: As) S μ ρ Post) (k : ∀ r S' μ' ρ', Post r S' μ' ρ' → LwG Z p e s m b below meth c (pc + 3) i (r.toList ++ rest) S' μ' ρ') : LwG Z p e s m b below meth c pc i (As.reverse ++ .ref a :: rest) S μ ρ := by
  simp only [metaOK, Bool.and_eq_true, decide_eq_true_eq] at hm
  intro H locs ls hH hB hl hL
  obtain ⟨hx, hb, hml, hown, hts, hK, hE, hEO, hX, hbl, hsz, hL3, -⟩ := C
  obtain ⟨-, -, cellB, g1, g2, g3, -⟩ := hH.obj ha hc
  have hM := hM hEO
  have hz1 : j2.2.2.2.2.1 = 0 := by rw [hz]
  have hz2 : j2.2.2.2.2.2 = 0 := by rw [hz]
  rw [hz1, hz2] at hM
  have rk : (rmS 100 j2).frames + 1 ≤ room_1.frames ∧ 8 + (j2.2.2.1 + 11) + (rmS 100 j2).locals ≤ room_1.locals := by
    have h45 := hm.2.2.2
    show 100 + 1 + 1 ≤ 2048 ∧ 8 + (j2.2.2.1 + 11) + 64 * (100 + 1) ≤ 84000
    omega
  have run := va_runV (R := room_1) (C := cR cl) (H := H) (locs := locs) (cells := 2747) (slots := 114633) (below := below) (e := e) (meth := meth) (As := As.map (sV Z.2.2.1 Z.2.2.2.1)) (rest := rest.map (sV Z.2.2.1 Z.2.2.2.1)) (b := Z.2.2.1 + a) (g := F0 m pc ls ((As.reverse ++ .ref a :: rest).map (sV Z.2.2.1 Z.2.2.2.1))) (index := idx) (n := n) (own := RL) (Ts := lw_good) (nL := 4) (cc := code) ⟨hx, hb, hml, hown, hts⟩ hM
    ⟨callB_of n hts (good_cons hw5) rfl hz1 hz2 (by rw [hy]; exact hts _ hw4) (hts _ hw1) ⟨hm.1, hm.2.1, hm.2.2.1⟩ rk, hts _ hw2, hts _ hw3⟩
    ⟨PcS.blind Z _ S μ ρ hEO, ⟨cellB, g1, by rw [g3]; rfl, by rw [g2]; exact (hK.1 cl hc).2.1⟩, fun U hU hW => ⟨rfl, by rw [hU]; exact hH, hK.warm hW, hEO s U hW (fun b hb => by rw [hU]; exact hB b hb) hE⟩⟩
    rfl (by rw [List.length_map]; exact hn) (by show ls.size = _; exact hL.1) (by show List.map _ _ = _; simp [sV]) (by show 2 * 0 + _ ≤ 8; rw [Nat.mul_zero, Nat.zero_add]; exact sV_map_len rest hr) hd ⟨Nat.le_of_ble_eq_true rfl, Nat.le_of_ble_eq_true rfl⟩
  intro T hT X
  obtain ⟨v, st₀, T1, T', Lo, h0, X', hLo, e1, e2, ⟨r, S', μ', ρ', hv, hp, hH', hb'⟩, st⟩ := run T hT X
  cases hv
  have key := k r S' μ' ρ' hp T'.heap (locs ++ Lo) ls (by rw [e1]; exact hH') (fun a ha => by rw [e1, hb' a ha, h0]; exact hB a ha) (fun x hx => (List.mem_append.mp hx).elim (hl x) (hLo x)) hL
  obtain ⟨t2, a1, b1⟩ := key T' rfl X'
  refine ⟨t2, st t2 ?_, b1⟩
  have e3 : (Option.map (sV Z.2.2.1 Z.2.2.2.1) r).toList ++ List.map (sV Z.2.2.1 Z.2.2.2.1) rest = (r.toList ++ rest).map (sV Z.2.2.1 Z.2.2.2.1) := by cases r <;> simp
  dsimp only at a1 ⊢
  rw [e3]
  exact a1
def csB (pc n idx1 idx2 : Nat) (off : Int) : Bool := decide (decode code pc = .ok (.aload_n 1, 1)) && (arB (pc + 1) n && (decide (decode code (pc + 1 + 5 * n) = .ok (.invokevirtual idx1, 3)) && (decide (decode code (pc + 1 + 5 * n + 3) = .ok (.aload_n 2, 1)) && (arB (pc + 1 + 5 * n + 3 + 1) n && (decide (decode code (pc + 1 + 5 * n + 3 + 1 + 5 * n) = .ok (.invokevirtual idx2, 3)) && (decide (decode code (pc + 1 + 5 * n + 3 + 1 + 5 * n + 3) = .ok (.if_icmp .eq off, 3)) && decide (((pc + 1 + 5 * n + 3 + 1 + 5 * n + 3 : Nat) : Int) + off = ((1513 : Nat) : Int))))))))
/-- what a method must be, to be called by the law -/
def mtW2 (j2 : Jm) (cl n idx : Nat) : Prop := j2.1.cls = cR cl ∧ metaOK j2 n = true ∧ j2.2.2.2.2 = (0, 0) ∧ Cond.methodLink RL idx j2.1 ∈ lw_good ∧ Cond.instanceMethod j2.1 ∈ lw_good ∧ Cond.selects (cR cl) j2.1 j2.1 ∈ lw_good ∧ Cond.initialized (cR cl) ∈ lw_good ∧ Cond.code j2.1 j2.2.1 j2.2.2.1 j2.2.2.2.1 ∈ lw_good
/-- a case of the law -/
theorem l_case (C : LwC Z p s m meth c b L xs) {j1 j2 : Jm} {n idx1 idx2 : Nat} {off : Int} (hn : n < 6) (hi : i + 5 < L) (hd : csB pc n idx1 idx2 off = true) (m1 : mtW2 j1 11 n idx1) (m2 : mtW2 j2 12 n idx2) (s1 : S.2 1 = (11, 11)) (s2 : S.2 2737 = (12, 27))
    (hc : Cs2 Z j1 j2 (aL xs i n) S μ ρ) (k : ∀ μ' ρ', LwI S μ' ρ' → LwG Z p e s m b below meth c 1513 i [] S μ' ρ') : LwG Z p e s m b below meth c pc i [] S μ ρ := by
  simp only [csB, Bool.and_eq_true, decide_eq_true_eq] at hd
  obtain ⟨d1, d2, d3, d4, d5, d6, d7, d8⟩ := hd
  obtain ⟨a1, a2, a3, a4, a5, a6, a7, a8⟩ := m1
  obtain ⟨b1, b2, b3, b4, b5, b6, b7, b8⟩ := m2
  refine l_load C (k := 1) d1 (Or.inl ⟨rfl, rfl⟩) ?_
  refine l_args C n hn (by omega) d2 ?_
  refine l_call C (cl := 11) (nf := 11) (rest := []) rfl a1 a2 a3 a4 a5 a6 a7 a8 d3 s1 (aL_len n) trivial hc (fun r S' μ' ρ' h => ?_)
  obtain ⟨v, rfl, rfl, h2⟩ := h
  refine l_load C (k := 2) d4 (Or.inr ⟨rfl, rfl⟩) ?_
  refine l_args C n hn (by omega) d5 ?_
  refine l_call C (cl := 12) (nf := 27) (rest := [.int v]) rfl b1 b2 b3 b4 b5 b6 b7 b8 d6 s2 (aL_len n) trivial h2 (fun r S'' μ'' ρ'' h => ?_)
  obtain ⟨rfl, rfl, h3⟩ := h
  intro H locs ls hH hB hl hL
  exact lv_icmp_eq (tgt := 1513) C.1 C.2.1 d7 d8 (fun _ => k μ'' ρ'' h3 H locs ls hH hB hl hL) (fun q => absurd rfl q)
end Law1
