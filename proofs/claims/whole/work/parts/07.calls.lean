/-! ===== calls, returns, a method from its entry ===== -/
theorem good_in : GoodIn lw_good lw_good := fun w h => ⟨h, good_of_word (List.mem_filter.mp h).2⟩
theorem good_cons {w : Cond} (h : w ∈ lw_good) : GoodIn lw_good (w :: lw_good) := fun v hv => (List.mem_cons.mp hv).elim (fun z => by rw [z]; exact good_in w h) (good_in v)
theorem PcS.blind (Z : Zt) (av : List Value) (S : Sh) (μ : Mi) (ρ : Mr) (hE : EOK Z.2.2.1 Z.2.2.2.2) : FrameBlind (PcS Z av S μ ρ) := by
  intro a U g mk h
  exact ⟨h.1, h.2.1, h.2.2.1.warm (U := U.calling g mk a) (State.WarmedH.refl U), hE U (U.calling g mk a) (State.WarmedH.refl U) (fun _ _ => rfl) h.2.2.2⟩
/-- what lies below a call's arguments: eight words at most -/
def okR : Nat → List Value → Prop := fun n l => match l with
  | [] => True
  | .int _ :: l => (match n with
    | n + 1 => okR n l
    | 0 => False)
  | .ref _ :: l => (match n with
    | n + 1 => okR n l
    | 0 => False)
  | .float _ :: l => (match n with
    | n + 1 => okR n l
    | 0 => False)
  | .long _ :: l => (match n with
    | n + 2 => okR n l
    | _ => False)
  | _ => False
theorem okR_sum {B : Nat} {X : Xt} : ∀ (l : List Value) (n : Nat), okR n l → ((l.map (sV B X)).map fun v => v.category).sum ≤ n := by
  intro l
  induction l with
  | nil => intro n _; simp
  | cons v l ih =>
    intro n h
    cases v with
    | int x =>
      cases n with
      | zero => exact (show False from h).elim
      | succ n =>
        have h1 := ih n h
        simp only [List.map_cons, List.sum_cons]
        have h2 : (sV B X (Value.int x)).category = 1 := rfl
        omega
    | ref x =>
      cases n with
      | zero => exact (show False from h).elim
      | succ n =>
        have h1 := ih n h
        simp only [List.map_cons, List.sum_cons]
        have h2 : (sV B X (Value.ref x)).category = 1 := rfl
        omega
    | float x =>
      cases n with
      | zero => exact (show False from h).elim
      | succ n =>
        have h1 := ih n h
        simp only [List.map_cons, List.sum_cons]
        have h2 : (sV B X (Value.float x)).category = 1 := rfl
        omega
    | long x =>
      match n, h with
      | 0, h => exact (show False from h).elim
      | 1, h => exact (show False from h).elim
      | n + 2, h =>
        have h1 := ih n h
        simp only [List.map_cons, List.sum_cons]
        have h2 : (sV B X (Value.long x)).category = 2 := rfl
        omega
    | double x => simp [okR] at h
    | null => simp [okR] at h
    | retAddr x => simp [okR] at h
theorem sV_map_len {B : Nat} {X : Xt} (l : List Value) (h : okR 8 l) : ((l.map (sV B X)).map fun v => v.category).sum ≤ 8 := okR_sum l 8 h
section Calls
variable {Z : Zt} {d : Nat} {j : Jm} {own : String} {p : Program} {e : Env} {R : Room} {s : State} {m : MethodId} {args : Array Value} {below : List Frame} {meth : Method} {c : Code} {Q : State → Prop} {pc : Nat} {t J : PT}
/-- behind a call -/
theorem call_on (C : Cx Z d j own p R s m args meth c) {L rest av : List Value} {q : Nat × Nat} {mc ms : Nat} {free : Addr → Prop} {H : Heap} {locs : List Loc} {ls : Array Slot} {g : JFrame}
    (hfree : free = fun a => Z.2.2.1 < a) (hg : g = F0 m pc ls av)
    (hB : ∀ a : Nat, a ≤ Z.2.2.1 → H[a]? = s.heap[a]?) (hl : LO Z R q locs) (hrm : q.1 + mc ≤ R.cells ∧ q.2 + ms ≤ R.slots) (hL : LR Z.2.2.1 Z.2.2.2.1 j.2.2.1 L ls)
    (hr : va_Run p Z.1 e R s m args below meth c H locs q.1 q.2 mc ms g (rest.map (sV Z.2.2.1 Z.2.2.2.1)) (QcS Z (fun r S' μ' ρ' => t L (r.toList ++ rest) S' (q.1 + mc, q.2 + ms) μ' ρ') #[]) free)
    (k1 : Sd Z j p e R s m args below meth c Q (pc + 3) t) : W p Z.1 e R s m args below meth c H locs q.1 q.2 Q g := by
  subst hfree
  subst hg
  intro T hT X
  obtain ⟨v, st₀, T1, T', Lo, h0, X', hLo, e1, e2, ⟨r, S', μ', ρ', hv, hp, hH', hb'⟩, st⟩ := hr T hT X
  cases hv
  have key := k1 L _ S' _ μ' ρ' hp T'.heap (locs ++ Lo) ls (by rw [e1]; exact hH') (fun a ha => by rw [e1, hb' a ha, h0]; exact hB a ha) ⟨fun x hx => (List.mem_append.mp hx).elim (hl.1 x) (hLo x), hrm⟩ hL
  obtain ⟨t2, a1, b1⟩ := key T' rfl X'
  refine ⟨t2, st t2 ?_, b1⟩
  have e3 : (Option.map (sV Z.2.2.1 Z.2.2.2.1) r).toList ++ List.map (sV Z.2.2.1 Z.2.2.2.1) rest = (r.toList ++ rest).map (sV Z.2.2.1 Z.2.2.2.1) := by cases r <;> simp
  dsimp only at a1 ⊢
  rw [e3]
  exact a1
/-- invokevirtual, of an object of class cl -/
def tCallV (M : CT) (j2 : Jm) (cl nf n : Nat) (t : PT) : PT := fun L st S q μ ρ => match popN n [] st with
  | some (As, .ref a :: rest) => S.2 a = (cl, nf) ∧ okR 8 rest ∧ M j2 (.ref a :: As) S μ ρ (fun r S' μ' ρ' => t L (r.toList ++ rest) S' q μ' ρ')
  | _ => False
theorem room_ok {d : Nat} {j j2 : Jm} (h : j2.2.2.1 ≤ 45) : (rmS d j2).frames + 1 ≤ (rmS (d + 1) j).frames ∧ 8 + (j2.2.2.1 + 11) + (rmS d j2).locals ≤ (rmS (d + 1) j).locals := by
  simp only [rmS]
  omega
def metaOK (j2 : Jm) (n : Nat) : Bool := decide (j2.1.cls ≠ "java/lang/invoke/MethodHandle") && (decide (j2.1.cls ≠ "java/lang/invoke/VarHandle") && (decide ((parseMethodDescriptor j2.1.desc).map (fun d => d.parameters.length) = some n) && decide (j2.2.2.1 ≤ 45)))
theorem s_callV (C : Cx Z d j own p R s m args meth c) {j2 : Jm} {cl nf n idx : Nat} (hc : cOK cl = true) (hy : j2.1.cls = cR cl) (hm : metaOK j2 n = true) (hz : j2.2.2.2.2 = (0, 0)) (hw1 : Cond.methodLink own idx j2.1 ∈ lw_good) (hw2 : Cond.instanceMethod j2.1 ∈ lw_good) (hw3 : Cond.selects (cR cl) j2.1 j2.1 ∈ lw_good)
    (hw4 : Cond.initialized (cR cl) ∈ lw_good) (hw5 : Cond.code j2.1 j2.2.1 j2.2.2.1 j2.2.2.2.1 ∈ lw_good) (hd : decode j.2.1 pc = .ok (.invokevirtual idx, 3))
    (k1 : Sd Z j p e R s m args below meth c Q (pc + 3) t) : Sd Z j p e R s m args below meth c Q pc (tCallV (MS Z d) j2 cl nf n t) := by
  simp only [metaOK, Bool.and_eq_true, decide_eq_true_eq] at hm
  intro L st S q μ ρ h H locs ls hH hB hl hL
  unfold tCallV at h
  split at h
  · rename_i As a rest hpop
    obtain ⟨h1, h2, h5⟩ := h
    obtain ⟨hst, hlen⟩ := popN_0 hpop
    have CC := C
    obtain ⟨hx, hb, hml, hown, hts, hr, hlo, hK, hE, hEO, hR, hnm⟩ := C
    obtain ⟨-, -, cellB, g1, g2, g3, -⟩ := hH.obj h1 hc
    have hM := h5 hEO
    have hz1 : j2.2.2.2.2.1 = 0 := by rw [hz]
    have hz2 : j2.2.2.2.2.2 = 0 := by rw [hz]
    rw [hz1, hz2] at hM
    have hrm : q.1 + 0 ≤ R.cells ∧ q.2 + 0 ≤ R.slots := hl.2
    have run := va_runV (R := R) (C := cR cl) (H := H) (locs := locs) (cells := q.1) (slots := q.2) (below := below) (e := e) (meth := meth) (As := As.map (sV Z.2.2.1 Z.2.2.2.1)) (rest := rest.map (sV Z.2.2.1 Z.2.2.2.1)) (b := Z.2.2.1 + a) (g := F0 m pc ls (st.map (sV Z.2.2.1 Z.2.2.2.1))) (index := idx) (n := n) (own := own) (Ts := lw_good) (nL := j.2.2.1) (cc := j.2.1) ⟨hx, hb, hml, hown, hts⟩ hM
      ⟨callB_of n hts (good_cons hw5) rfl hz1 hz2 (by rw [hy]; exact hts _ hw4) (hts _ hw1) ⟨hm.1, hm.2.1, hm.2.2.1⟩ (by rw [hR]; exact room_ok hm.2.2.2), hts _ hw2, hts _ hw3⟩
      ⟨PcS.blind Z _ S μ ρ hEO, ⟨cellB, g1, by rw [g3]; rfl, by rw [g2]; exact (hK.1 cl hc).2.1⟩, fun U hU hW => ⟨rfl, by rw [hU]; exact hH, hK.warm hW, hEO s U hW (fun b hb => by rw [hU]; exact hB b hb) hE⟩⟩
      rfl (by rw [List.length_map]; exact hlen) (by show ls.size = _; exact hL.2.1) (by show st.map _ = _; rw [hst]; simp [sV]) (by show 2 * 0 + _ ≤ 8; rw [Nat.mul_zero, Nat.zero_add]; exact sV_map_len rest h2) hd hrm
    exact call_on CC rfl rfl hB hl hrm hL run k1
  · exact h.elim
/-- invokestatic -/
def tCallS (M : CT) (j2 : Jm) (n : Nat) (t : PT) : PT := fun L st S q μ ρ => match popN n [] st with
  | some (As, rest) => okR 8 rest ∧ M j2 As S μ ρ (fun r S' μ' ρ' => t L (r.toList ++ rest) S' q μ' ρ')
  | _ => False
theorem s_callS (C : Cx Z d j own p R s m args meth c) {j2 : Jm} {n idx : Nat} (hm : metaOK j2 n = true) (hz : j2.2.2.2.2 = (0, 0)) (hw1 : Cond.methodLink own idx j2.1 ∈ lw_good) (hw2 : Cond.static j2.1 ∈ lw_good)
    (hw4 : Cond.initialized j2.1.cls ∈ lw_good) (hw5 : Cond.code j2.1 j2.2.1 j2.2.2.1 j2.2.2.2.1 ∈ lw_good) (hd : decode j.2.1 pc = .ok (.invokestatic idx, 3))
    (k1 : Sd Z j p e R s m args below meth c Q (pc + 3) t) : Sd Z j p e R s m args below meth c Q pc (tCallS (MS Z d) j2 n t) := by
  simp only [metaOK, Bool.and_eq_true, decide_eq_true_eq] at hm
  intro L st S q μ ρ h H locs ls hH hB hl hL
  unfold tCallS at h
  split at h
  · rename_i As rest hpop
    obtain ⟨h2, h5⟩ := h
    obtain ⟨hst, hlen⟩ := popN_0 hpop
    have CC := C
    obtain ⟨hx, hb, hml, hown, hts, hr, hlo, hK, hE, hEO, hR, hnm⟩ := C
    have hM := h5 hEO
    have hz1 : j2.2.2.2.2.1 = 0 := by rw [hz]
    have hz2 : j2.2.2.2.2.2 = 0 := by rw [hz]
    rw [hz1, hz2] at hM
    have hrm : q.1 + 0 ≤ R.cells ∧ q.2 + 0 ≤ R.slots := hl.2
    have run := va_runS (R := R) (H := H) (locs := locs) (cells := q.1) (slots := q.2) (below := below) (e := e) (meth := meth) (As := As.map (sV Z.2.2.1 Z.2.2.2.1)) (rest := rest.map (sV Z.2.2.1 Z.2.2.2.1)) (g := F0 m pc ls (st.map (sV Z.2.2.1 Z.2.2.2.1))) (index := idx) (n := n) (own := own) (Ts := lw_good) (nL := j.2.2.1) (cc := j.2.1) ⟨hx, hb, hml, hown, hts⟩ hM
      ⟨callB_of n hts (good_cons hw5) rfl hz1 hz2 (hts _ hw4) (hts _ hw1) ⟨hm.1, hm.2.1, hm.2.2.1⟩ (by rw [hR]; exact room_ok hm.2.2.2), hts _ hw2⟩
      ⟨PcS.blind Z _ S μ ρ hEO, fun U hU hW => ⟨rfl, by rw [hU]; exact hH, hK.warm hW, hEO s U hW (fun b hb => by rw [hU]; exact hB b hb) hE⟩⟩
      rfl (by rw [List.length_map]; exact hlen) (by show ls.size = _; exact hL.2.1) (by show st.map _ = _; rw [hst]; simp) (by show 2 * 0 + _ ≤ 8; rw [Nat.mul_zero, Nat.zero_add]; exact sV_map_len rest h2) hd hrm
    exact call_on CC rfl rfl hB hl hrm hL run k1
  · exact h.elim
theorem s_callSN (C : Cx Z d j own p R s m args meth c) {j2 : Jm} {n idx : Nat} {host : String} (hm : metaOK j2 n = true) (hz : j2.2.2.2.2 = (0, 0)) (hw1 : Cond.methodLinkNest own idx j2.1 host ∈ nest_ws) (hw2 : Cond.static j2.1 ∈ lw_good)
    (hw4 : Cond.initialized j2.1.cls ∈ lw_good) (hw5 : Cond.code j2.1 j2.2.1 j2.2.2.1 j2.2.2.2.1 ∈ lw_good) (hd : decode j.2.1 pc = .ok (.invokestatic idx, 3))
    (k1 : Sd Z j p e R s m args below meth c Q (pc + 3) t) : Sd Z j p e R s m args below meth c Q pc (tCallS (MS Z d) j2 n t) := by
  simp only [metaOK, Bool.and_eq_true, decide_eq_true_eq] at hm
  intro L st S q μ ρ h H locs ls hH hB hl hL
  unfold tCallS at h
  split at h
  · rename_i As rest hpop
    obtain ⟨h2, h5⟩ := h
    obtain ⟨hst, hlen⟩ := popN_0 hpop
    have CC := C
    obtain ⟨hx, hb, hml, hown, hts, hr, hlo, hK, hE, hEO, hR, hnm⟩ := C
    have hM := h5 hEO
    have hz1 : j2.2.2.2.2.1 = 0 := by rw [hz]
    have hz2 : j2.2.2.2.2.2 = 0 := by rw [hz]
    rw [hz1, hz2] at hM
    have hrm : q.1 + 0 ≤ R.cells ∧ q.2 + 0 ≤ R.slots := hl.2
    have run := va_runSN (R := R) (host := host) (H := H) (locs := locs) (cells := q.1) (slots := q.2) (below := below) (e := e) (meth := meth) (As := As.map (sV Z.2.2.1 Z.2.2.2.1)) (rest := rest.map (sV Z.2.2.1 Z.2.2.2.1)) (g := F0 m pc ls (st.map (sV Z.2.2.1 Z.2.2.2.1))) (index := idx) (n := n) (own := own) (Ts := lw_good) (nL := j.2.2.1) (cc := j.2.1) ⟨hx, hb, hml, hown, hts⟩ hM
      ⟨va_cnB n hts (good_cons hw5) rfl hz1 hz2 (hK.2.2 _ hw1) (hts _ hw4) ⟨hm.1, hm.2.1, hm.2.2.1⟩ (by rw [hR]; exact room_ok hm.2.2.2), hts _ hw2, trivial⟩
      ⟨PcS.blind Z _ S μ ρ hEO, fun U hU hW => ⟨rfl, by rw [hU]; exact hH, hK.warm hW, hEO s U hW (fun b hb => by rw [hU]; exact hB b hb) hE⟩⟩
      rfl (by rw [List.length_map]; exact hlen) (by show ls.size = _; exact hL.2.1) (by show st.map _ = _; rw [hst]; simp) (by show 2 * 0 + _ ≤ 8; rw [Nat.mul_zero, Nat.zero_add]; exact sV_map_len rest h2) hd hrm
    exact call_on CC rfl rfl hB hl hrm hL run k1
  · exact h.elim
/-- invokespecial of a constructor -/
def tCallI (M : CT) (j2 : Jm) (n mc ms : Nat) (t : PT) : PT := fun L st S q μ ρ => match popN n [] st with
  | some (As, .ref a :: rest) => okR 8 rest ∧ q.1 + j2.2.2.2.2.1 ≤ mc ∧ q.2 + j2.2.2.2.2.2 ≤ ms ∧ M j2 (.ref a :: As) S μ ρ (fun r S' μ' ρ' => t L (r.toList ++ rest) S' (q.1 + j2.2.2.2.2.1, q.2 + j2.2.2.2.2.2) μ' ρ')
  | _ => False
theorem s_callI (C : Cx Z d j own p R s m args meth c) {j2 : Jm} {n idx : Nat} (hm : metaOK j2 n = true) (hn : j2.1.name = "<init>" ∧ j2.2.2.2.1 = none) (hw1 : Cond.methodLink own idx j2.1 ∈ lw_good) (hw2 : Cond.instanceMethod j2.1 ∈ lw_good)
    (hw4 : Cond.initialized j2.1.cls ∈ lw_good) (hw5 : Cond.code j2.1 j2.2.1 j2.2.2.1 j2.2.2.2.1 ∈ lw_good) (hd : decode j.2.1 pc = .ok (.invokespecial idx, 3))
    (k1 : Sd Z j p e R s m args below meth c Q (pc + 3) t) : Sd Z j p e R s m args below meth c Q pc (tCallI (MS Z d) j2 n j.2.2.2.2.1 j.2.2.2.2.2 t) := by
  simp only [metaOK, Bool.and_eq_true, decide_eq_true_eq] at hm
  intro L st S q μ ρ h H locs ls hH hB hl hL
  unfold tCallI at h
  split at h
  · rename_i As a rest hpop
    obtain ⟨h2, h3, h4, h5⟩ := h
    obtain ⟨hst, hlen⟩ := popN_0 hpop
    have CC := C
    obtain ⟨hx, hb, hml, hown, hts, hr, hlo, hK, hE, hEO, hR, hnm⟩ := C
    have hM := h5 hEO
    have hrm : q.1 + j2.2.2.2.2.1 ≤ R.cells ∧ q.2 + j2.2.2.2.2.2 ≤ R.slots := ⟨by rw [hR]; exact h3, by rw [hR]; exact h4⟩
    have run := va_runI (R := R) (H := H) (locs := locs) (cells := q.1) (slots := q.2) (below := below) (e := e) (meth := meth) (bytes := j2.2.1) (maxL := j2.2.2.1) (As := As.map (sV Z.2.2.1 Z.2.2.2.1)) (rest := rest.map (sV Z.2.2.1 Z.2.2.2.1)) (b := Z.2.2.1 + a) (g := F0 m pc ls (st.map (sV Z.2.2.1 Z.2.2.2.1))) (index := idx) (n := n) (own := own) (Ts := lw_good) (nL := j.2.2.1) (cc := j.2.1) ⟨hx, hb, hml, hown, hts⟩ hM
      ⟨callB_of (ws' := lw_good) n hts (good_cons hw5) (by unfold wsS1; rw [hn.2]) rfl rfl (hts _ hw4) (hts _ hw1) ⟨hm.1, hm.2.1, hm.2.2.1⟩ (by rw [hR]; exact room_ok hm.2.2.2), hn.1, hts _ hw2⟩
      ⟨PcS.blind Z _ S μ ρ hEO, fun U hU hW => ⟨rfl, by rw [hU]; exact hH, hK.warm hW, hEO s U hW (fun b hb => by rw [hU]; exact hB b hb) hE⟩⟩
      rfl (by rw [List.length_map]; exact hlen) (by show ls.size = _; exact hL.2.1) (by show st.map _ = _; rw [hst]; simp [sV]) (by show 2 * 0 + _ ≤ 8; rw [Nat.mul_zero, Nat.zero_add]; exact sV_map_len rest h2) hd hrm
    exact call_on CC rfl rfl hB hl hrm hL run k1
  · exact h.elim
theorem s_callIN (C : Cx Z d j own p R s m args meth c) {j2 : Jm} {n idx : Nat} {host : String} (hm : metaOK j2 n = true) (hn : j2.1.name = "<init>" ∧ j2.2.2.2.1 = none) (hw1 : Cond.methodLinkNest own idx j2.1 host ∈ nest_ws) (hw2 : Cond.instanceMethod j2.1 ∈ lw_good)
    (hw4 : Cond.initialized j2.1.cls ∈ lw_good) (hw5 : Cond.code j2.1 j2.2.1 j2.2.2.1 j2.2.2.2.1 ∈ lw_good) (hd : decode j.2.1 pc = .ok (.invokespecial idx, 3))
    (k1 : Sd Z j p e R s m args below meth c Q (pc + 3) t) : Sd Z j p e R s m args below meth c Q pc (tCallI (MS Z d) j2 n j.2.2.2.2.1 j.2.2.2.2.2 t) := by
  simp only [metaOK, Bool.and_eq_true, decide_eq_true_eq] at hm
  intro L st S q μ ρ h H locs ls hH hB hl hL
  unfold tCallI at h
  split at h
  · rename_i As a rest hpop
    obtain ⟨h2, h3, h4, h5⟩ := h
    obtain ⟨hst, hlen⟩ := popN_0 hpop
    have CC := C
    obtain ⟨hx, hb, hml, hown, hts, hr, hlo, hK, hE, hEO, hR, hnm⟩ := C
    have hM := h5 hEO
    have hrm : q.1 + j2.2.2.2.2.1 ≤ R.cells ∧ q.2 + j2.2.2.2.2.2 ≤ R.slots := ⟨by rw [hR]; exact h3, by rw [hR]; exact h4⟩
    have run := va_runIN (R := R) (host := host) (H := H) (locs := locs) (cells := q.1) (slots := q.2) (below := below) (e := e) (meth := meth) (bytes := j2.2.1) (maxL := j2.2.2.1) (As := As.map (sV Z.2.2.1 Z.2.2.2.1)) (rest := rest.map (sV Z.2.2.1 Z.2.2.2.1)) (b := Z.2.2.1 + a) (g := F0 m pc ls (st.map (sV Z.2.2.1 Z.2.2.2.1))) (index := idx) (n := n) (own := own) (Ts := lw_good) (nL := j.2.2.1) (cc := j.2.1) ⟨hx, hb, hml, hown, hts⟩ hM
      ⟨va_cnB (ws' := lw_good) n hts (good_cons hw5) (by unfold wsS1; rw [hn.2]) rfl rfl (hK.2.2 _ hw1) (hts _ hw4) ⟨hm.1, hm.2.1, hm.2.2.1⟩ (by rw [hR]; exact room_ok hm.2.2.2), hn.1, hts _ hw2⟩
      ⟨PcS.blind Z _ S μ ρ hEO, fun U hU hW => ⟨rfl, by rw [hU]; exact hH, hK.warm hW, hEO s U hW (fun b hb => by rw [hU]; exact hB b hb) hE⟩⟩
      rfl (by rw [List.length_map]; exact hlen) (by show ls.size = _; exact hL.2.1) (by show st.map _ = _; rw [hst]; simp [sV]) (by show 2 * 0 + _ ≤ 8; rw [Nat.mul_zero, Nat.zero_add]; exact sV_map_len rest h2) hd hrm
    exact call_on CC rfl rfl hB hl hrm hL run k1
  · exact h.elim
/-- Object's constructor -/
def tObjI (t : PT) : PT := fun L st S q μ ρ => match st with
  | .ref _ :: st => okR 8 st ∧ t L st S q μ ρ
  | _ => False
theorem s_objI (C : Cx Z d j own p R s m args meth c) {idx : Nat} (hw1 : Cond.methodLink own idx Lib.objectInit ∈ lw_good) (hw2 : Cond.instanceMethod Lib.objectInit ∈ lw_good) (hw3 : Cond.code Lib.objectInit ⟨#[0xb1]⟩ 1 none ∈ lw_good) (hd : decode j.2.1 pc = .ok (.invokespecial idx, 3))
    (k1 : Sd Z j p e R s m args below meth c Q (pc + 3) t) : Sd Z j p e R s m args below meth c Q pc (tObjI t) := by
  intro L st S q μ ρ h H locs ls hH hB hl hL
  unfold tObjI at h
  split at h
  · rename_i a st
    obtain ⟨hx, hb, hml, hown, hts, hr, hlo, hK, hE, hEO, hR, hnm⟩ := C
    refine W.objInit hx hb hown (hts _ hw1) (hts _ hw2) (hts _ hw3) rfl (by show ls.size = _; rw [hml]; exact hL.2.1) rfl hd (by rw [hR]; simp [rmS]) ?_ (k1 L _ S q μ ρ h.2 H locs ls hH hB hl hL)
    rw [hR]
    have := sV_map_len (B := Z.2.2.1) (X := Z.2.2.2.1) st h.1
    show 2 * 0 + _ + 12 ≤ 64 * (d + 1 + 1)
    omega
  · exact h.elim
def tIret (Rp : RT) : PT := fun _ st S _ μ ρ => match st with
  | [.int x] => Rp (some (.int x)) S μ ρ
  | _ => False
theorem s_iret (C : Cx Z d j own p R s m args meth c) {Rp : RT} (hr : j.2.2.2.1 = some .int) (hd : decode j.2.1 pc = .ok (.ireturn, 1)) :
    Sd Z j p e R s m args below meth c (MQ below (QcS Z Rp) args s j.2.2.2.2.1 j.2.2.2.2.2 (fun a => Z.2.2.1 < a)) pc (tIret Rp) := by
  intro L st S q μ ρ h H locs ls hH hB hl hL
  unfold tIret at h
  split at h
  · have h3 := h
    have hR := C.2.2.2.2.2.2.2.2.2.2.1
    refine W.widen (k := j.2.2.2.2.1) (n := j.2.2.2.2.2) (by have := hl.2.1; rw [hR] at this; exact this) (by have := hl.2.2; rw [hR] at this; exact this) ?_
    exact W.iret C.1 C.2.1 (by rw [C.2.2.2.2.2.1, hr]) (fun t ht hW => ⟨some (.int _), S, μ, ρ, rfl, h3, by rw [ht]; exact hH, fun a ha => by rw [ht]; exact hB a ha⟩) (fun q hq => hl.1 q hq) hd C.2.2.2.2.2.2.1
  · exact h.elim
def tZret (Rp : RT) : PT := fun _ st S _ μ ρ => match st with
  | [.int x] => (x = 0 ∨ x = 1) ∧ Rp (some (.int x)) S μ ρ
  | _ => False
theorem s_zret (C : Cx Z d j own p R s m args meth c) {Rp : RT} (hr : j.2.2.2.1 = some .boolean) (hd : decode j.2.1 pc = .ok (.ireturn, 1)) :
    Sd Z j p e R s m args below meth c (MQ below (QcS Z Rp) args s j.2.2.2.2.1 j.2.2.2.2.2 (fun a => Z.2.2.1 < a)) pc (tZret Rp) := by
  intro L st S q μ ρ h H locs ls hH hB hl hL
  unfold tZret at h
  split at h
  · obtain ⟨h4, h3⟩ := h
    have hR := C.2.2.2.2.2.2.2.2.2.2.1
    refine W.widen (k := j.2.2.2.2.1) (n := j.2.2.2.2.2) (by have := hl.2.1; rw [hR] at this; exact this) (by have := hl.2.2; rw [hR] at this; exact this) ?_
    exact W.zret (ty := .boolean) C.1 C.2.1 (by rw [C.2.2.2.2.2.1, hr]) (by rcases h4 with rfl | rfl <;> rfl) (fun t ht hW => ⟨some (.int _), S, μ, ρ, rfl, h3, by rw [ht]; exact hH, fun a ha => by rw [ht]; exact hB a ha⟩) (fun q hq => hl.1 q hq) hd C.2.2.2.2.2.2.1
  · exact h.elim
def tAret (Rp : RT) : PT := fun _ st S _ μ ρ => match st with
  | [.ref x] => Rp (some (.ref x)) S μ ρ
  | _ => False
theorem s_aret (C : Cx Z d j own p R s m args meth c) {Rp : RT} {nm : String} (hr : j.2.2.2.1 = some (.object nm)) (hd : decode j.2.1 pc = .ok (.areturn, 1)) :
    Sd Z j p e R s m args below meth c (MQ below (QcS Z Rp) args s j.2.2.2.2.1 j.2.2.2.2.2 (fun a => Z.2.2.1 < a)) pc (tAret Rp) := by
  intro L st S q μ ρ h H locs ls hH hB hl hL
  unfold tAret at h
  split at h
  · rename_i x
    have h3 := h
    have hR := C.2.2.2.2.2.2.2.2.2.2.1
    refine W.widen (k := j.2.2.2.2.1) (n := j.2.2.2.2.2) (by have := hl.2.1; rw [hR] at this; exact this) (by have := hl.2.2; rw [hR] at this; exact this) ?_
    exact W.aret C.1 C.2.1 (rt := .object nm) (by rw [C.2.2.2.2.2.1, hr]) (Or.inl ⟨nm, rfl⟩) (Or.inr ⟨_, rfl⟩) (fun t ht hW => ⟨some (.ref x), S, μ, ρ, rfl, h3, by rw [ht]; exact hH, fun a ha => by rw [ht]; exact hB a ha⟩) (fun q hq => hl.1 q hq) hd C.2.2.2.2.2.2.1
  · exact h.elim
def tVret (Rp : RT) : PT := fun _ st S _ μ ρ => match st with
  | [] => Rp none S μ ρ
  | _ => False
theorem s_vret (C : Cx Z d j own p R s m args meth c) {Rp : RT} (hr : j.2.2.2.1 = none) (hd : decode j.2.1 pc = .ok (.return_, 1)) :
    Sd Z j p e R s m args below meth c (MQ below (QcS Z Rp) args s j.2.2.2.2.1 j.2.2.2.2.2 (fun a => Z.2.2.1 < a)) pc (tVret Rp) := by
  intro L st S q μ ρ h H locs ls hH hB hl hL
  unfold tVret at h
  split at h
  · have h3 := h
    have hR := C.2.2.2.2.2.2.2.2.2.2.1
    refine W.widen (k := j.2.2.2.2.1) (n := j.2.2.2.2.2) (by have := hl.2.1; rw [hR] at this; exact this) (by have := hl.2.2; rw [hR] at this; exact this) ?_
    exact W.vret C.1 C.2.1 (by rw [C.2.2.2.2.2.1, hr]) (fun t ht hW => ⟨none, S, μ, ρ, rfl, h3, by rw [ht]; exact hH, fun a ha => by rw [ht]; exact hB a ha⟩) (fun q hq => hl.1 q hq) hd C.2.2.2.2.2.2.1
  · exact h.elim
end Calls
/-- a method from its entry -/
def ent (nL : Nat) (av : List Value) : List Value := av ++ List.replicate (nL - av.length) .null
theorem lg_sl_1 : ∀ vs : List Value, (∀ v ∈ vs, v.category = 1) → lg_sl vs = vs.map Slot.val := by
  intro vs h
  induction vs with
  | nil => rfl
  | cons v vs ih =>
    have h1 := h v List.mem_cons_self
    simp only [lg_sl, List.flatMap_cons, h1, List.map_cons] at ih ⊢
    rw [ih (fun w hw => h w (List.mem_cons_of_mem _ hw))]
    rfl
theorem MS_of {Z : Zt} {d : Nat} {j : Jm} {own : String} {av : List Value} {S : Sh} {μ : Mi} {ρ : Mr} {Rp : RT} (L0 : List Value) (hp : plainName j.1.cls = true) (ho : j.1.cls = own) (hcat : (av.all fun v => v.category == 1) = true) (hlen : av.length ≤ j.2.2.1) (hL0 : ent j.2.2.1 av = L0)
    (body : ∀ (p : Program) (e : Env) (R : Room) (s : State) (m : MethodId) (args : Array Value) (below : List Frame) (meth : Method) (c : Code), Cx Z d j own p R s m args meth c →
      Gw Z j.2.2.1 p e R s m args below meth c (MQ below (QcS Z Rp) args s j.2.2.2.2.1 j.2.2.2.2.2 (fun a => Z.2.2.1 < a)) 0 L0 [] S (0, 0) μ ρ) : MS Z (d + 1) j av S μ ρ Rp := by
  intro hEO
  refine Met.ofW (cc := j.2.1) (maxL := j.2.2.1) (ret := j.2.2.2.1) hp rfl ?_
  intro p e s m args below meth c s₁ B hml hv
  obtain ⟨rfl, hH, hK, hE⟩ := hv
  have hts := atoms_spec (ws := wsS1 j) B.pre
  have hown : s.vm.findClass own = some m.cls := by rw [← ho]; exact findClass_of_methodNamed B.named
  have hcat' : ∀ v ∈ av.map (sV Z.2.2.1 Z.2.2.2.1), v.category = 1 := by
    intro v hv
    obtain ⟨w, hw, rfl⟩ := List.mem_map.mp hv
    rw [sV_cat]
    have := List.all_eq_true.mp hcat w hw
    simpa using this
  have hl := lv_entry (av.map (sV Z.2.2.1 Z.2.2.2.1)) (n := j.2.2.1) (by rw [lg_sl_1 _ hcat']; simpa using hlen)
  rw [lg_entry_eq]
  rw [lg_sl_1 _ hcat'] at hl ⊢
  have hC : Cx Z d j own p (headSpec (wsS1 j) (rmS (d + 1) j)).room s m (av.map (sV Z.2.2.1 Z.2.2.2.1)).toArray meth c :=
    ⟨B.exec, B.bytes, hml, hown, fun w hw => hts w (List.mem_cons_of_mem _ hw), B.returns, B.notSynchronized, hK, hE, hEO, rfl, (name_of_methodNamed B.named B.method).1⟩
  refine body p e _ s m _ below meth c hC s.heap [] _ hH (fun _ _ => rfl) ⟨fun x hx => (List.not_mem_nil hx).elim, Nat.zero_le _, Nat.zero_le _⟩ ⟨?_, hl.1, hl.2.1, fun i v hi hn => ?_⟩
  · rw [← hL0]; simp [ent]; omega
  · rw [← hL0] at hi
    unfold ent at hi
    by_cases hia : i < av.length
    · rw [List.getElem?_append_left hia] at hi
      have h1 : v.category = 1 := by have := List.all_eq_true.mp hcat v (List.mem_of_getElem? hi); simpa using this
      refine ⟨h1, ?_⟩
      rw [List.getElem?_toArray, List.getElem?_append_left (by simpa using hia)]
      simp [hi]
    · exfalso
      rw [List.getElem?_append_right (by omega)] at hi
      have h2 := List.mem_of_getElem? hi
      exact hn (List.eq_of_mem_replicate h2)
