/-! ===== cells: fields, arrays, new ones ===== -/
theorem cOK_lt {c : Nat} (h : cOK c = true) : c < 20 := by rcases cOK_cases h with rfl | rfl | rfl | rfl | rfl | rfl | rfl | rfl | rfl | rfl | rfl <;> decide
theorem aOK_cases {k : Nat} (h : aOK k = true) : k = 20 ∨ k = 21 ∨ k = 22 ∨ k = 32 ∨ k = 37 ∨ k = 40 := by
  simp [aOK] at h
  omega
theorem HR.obj {D : Dt} {B : Nat} {S : Sh} {μ : Mi} {ρ : Mr} {H : Heap} {a cl n : Nat} (h : HR D B S μ ρ H) (ha : S.2 a = (cl, n)) (hc : cOK cl = true) :
    1 ≤ a ∧ n = cN cl ∧ ∃ cell : Cell, H[B + a]? = some cell ∧ cell.cls = D.1 cl ∧ cell.vm = .none ∧ ∀ k, k < n → cell.slots[D.2.1 cl k]? = some (fvv B cl k (μ a k) (ρ a k)) := by
  have hlt : (S.2 a).1 < 50 := by
    rw [ha]
    exact Nat.lt_of_lt_of_le (cOK_lt hc) (by decide)
  obtain ⟨h0, -, h1⟩ := h.2.2 a hlt
  rw [ha] at h1
  rcases h1 with ⟨_, h2, cell, h3⟩ | ⟨h2, _⟩
  · exact ⟨h0, h2, cell, h3⟩
  · exfalso
    have h4 := cOK_lt hc
    rcases aOK_cases h2 with z | z | z | z | z | z <;> (dsimp only at z; omega)
theorem HR.arr {D : Dt} {B : Nat} {S : Sh} {μ : Mi} {ρ : Mr} {H : Heap} {a k : Nat} (h : HR D B S μ ρ H) (ha : (S.2 a).1 = k) (hc : aOK k = true) :
    1 ≤ a ∧ H[B + a]? = some (arrV (D.2.2 k) (S.2 a).2 (fun j => avv B k (μ a j) (ρ a j))) := by
  have hlt : (S.2 a).1 < 50 := by
    rw [ha]
    rcases aOK_cases hc with z | z | z | z | z | z <;> omega
  obtain ⟨h0, -, h1⟩ := h.2.2 a hlt
  rcases h1 with ⟨h2, _⟩ | ⟨h2, h3⟩
  · exfalso
    have h4 := cOK_lt h2
    rw [ha] at h4
    rcases aOK_cases hc with z | z | z | z | z | z <;> omega
  · rw [ha] at h3
    exact ⟨h0, h3⟩
theorem HR.upd {D : Dt} {B : Nat} {S : Sh} {μ μ' : Mi} {ρ ρ' : Mr} {H H' : Heap} {a : Nat} (h : HR D B S μ ρ H) (hz : H'.size = H.size) (ho : ∀ q : Nat, q ≠ B + a → H'[q]? = H[q]?)
    (hμ : ∀ b, b ≠ a → μ' b = μ b) (hρ : ∀ b, b ≠ a → ρ' b = ρ b) (hc : CA D B (S.2 a) (μ' a) (ρ' a) H'[B + a]?) : HR D B S μ' ρ' H' := by
  refine ⟨hz.trans h.1, h.2.1, fun b hb => ?_⟩
  obtain ⟨h1, h2, h3⟩ := h.2.2 b hb
  refine ⟨h1, h2, ?_⟩
  by_cases hba : b = a
  · subst hba; exact hc
  · rw [hμ b hba, hρ b hba, ho (B + b) (by omega)]; exact h3
theorem HR.push {D : Dt} {B : Nat} {S : Sh} {μ : Mi} {ρ : Mr} {H H' : Heap} {K : Nat × Nat} {f : Nat → Int32} {g : Nat → Nat} (h : HR D B S μ ρ H) (hz : H'.size = H.size + 1) (ho : ∀ q : Nat, q < H.size → H'[q]? = H[q]?)
    (hc : CA D B K f g H'[H.size]?) : HR D B (S.1 + 1, upK S.2 S.1 K) (upF μ S.1 f) (upF ρ S.1 g) H' := by
  have h0 := h.1
  refine ⟨by show H'.size = B + (S.1 + 1); omega, by show 1 ≤ S.1 + 1; omega, fun b hb => ?_⟩
  by_cases hbs : b = S.1
  · subst hbs
    refine ⟨h.2.1, Nat.lt_succ_self _, ?_⟩
    show CA D B (upK S.2 S.1 K S.1) (upF μ S.1 f S.1) (upF ρ S.1 g S.1) H'[B + S.1]?
    simp only [upK, upF, if_true]
    rw [← h0]
    exact hc
  · have e1 : upK S.2 S.1 K b = S.2 b := by simp [upK, hbs]
    have hb' : (S.2 b).1 < 50 := by
      have : (upK S.2 S.1 K b).1 < 50 := hb
      rw [e1] at this; exact this
    obtain ⟨h1, h2, h3⟩ := h.2.2 b hb'
    refine ⟨h1, Nat.lt_succ_of_lt h2, ?_⟩
    show CA D B (upK S.2 S.1 K b) (upF μ S.1 f b) (upF ρ S.1 g b) H'[B + b]?
    rw [e1, show upF μ S.1 f b = μ b by simp [upF, hbs], show upF ρ S.1 g b = ρ b by simp [upF, hbs], ho (B + b) (by omega)]
    exact h3
theorem c_apart {D : Dt} {s : State} {args : Array Value} (hts : ∀ w ∈ lw_good, w.before args s = true) (hK : Kd D s) {cl : Nat} (hc : cOK cl = true) : ∀ x y, x < cN cl → y < cN cl → x ≠ y → D.2.1 cl x ≠ D.2.1 cl y := by
  intro x y hx hy hne
  obtain ⟨hS, -⟩ := hK.1 cl hc
  obtain ⟨_, _, _, fa, hia, ea⟩ := hS x hx
  obtain ⟨_, _, _, fb, hib, eb⟩ := hS y hy
  rw [← ea, ← eb]
  refine u_apart (u_lays hts (c_in hc) hx) (u_lays hts (c_in hc) hy) hia hib ?_
  rw [(State.fieldFound?_type hia (c_ty hc x hx)).1, (State.fieldFound?_type hib (c_ty hc y hy)).1]
  exact c_nm hc x hx y hy hne
theorem dv_all : ∀ c, c < 13 → cOK c = true → ∀ k, k < cN c → (isR c k = true ∧ defaultValue (cTy c k) = .null) ∨ (isR c k = false ∧ defaultValue (cTy c k) = .int 0) := by decide +kernel
theorem dv_ok {c k : Nat} (B : Nat) (hc : cOK c = true) (hk : k < cN c) : defaultValue (cTy c k) = fvv B c k 0 0 := by
  have h13 : c < 13 := by rcases cOK_cases hc with rfl | rfl | rfl | rfl | rfl | rfl | rfl | rfl | rfl | rfl | rfl <;> decide
  rcases dv_all c h13 hc k hk with ⟨h1, h2⟩ | ⟨h1, h2⟩
  · rw [h2]; simp [fvv, h1, rv]
  · rw [h2]; simp [fvv, h1]
section Heap
variable {Z : Zt} {d : Nat} {j : Jm} {own : String} {p : Program} {e : Env} {R : Room} {s : State} {m : MethodId} {args : Array Value} {below : List Frame} {meth : Method} {c : Code} {Q : State → Prop} {pc : Nat} {t J : PT}
def tGetI (cl n k : Nat) (t : PT) : PT := fun L st S q μ ρ => match st with
  | .ref a :: st => S.2 a = (cl, n) ∧ t L (.int (μ a k) :: st) S q μ ρ
  | _ => False
def tGetR (cl n k : Nat) (t : PT) : PT := fun L st S q μ ρ => match st with
  | .ref a :: st => S.2 a = (cl, n) ∧ ρ a k ≠ 0 ∧ t L (.ref (ρ a k) :: st) S q μ ρ
  | _ => False
theorem get_core (C : Cx Z d j own p R s m args meth c) {cl n k idx : Nat} (hc : cOK cl = true) (hk : k < cN cl) (hw : Cond.fieldLink own idx (cR cl) (cT cl k).2.1 (cT cl k).2.2.1 ∈ lw_good) (hd : decode j.2.1 pc = .ok (.getfield idx, 3))
    {a : Nat} {S : Sh} {μ : Mi} {ρ : Mr} (h1 : S.2 a = (cl, n)) {H : Heap} {locs : List Loc} {ls : Array Slot} {cells slots : Nat} {rest : List Value} (hH : HR Z.2.1 Z.2.2.1 S μ ρ H)
    (kk : W p Z.1 e R s m args below meth c H locs cells slots Q (F0 m (pc + 3) ls (fvv Z.2.2.1 cl k (μ a k) (ρ a k) :: rest))) : W p Z.1 e R s m args below meth c H locs cells slots Q (F0 m pc ls (.ref (Z.2.2.1 + a) :: rest)) := by
  obtain ⟨-, hn, cell, q1, q2, q3, q4⟩ := hH.obj h1 hc
  obtain ⟨hx, hb, hml, hown, hts, hr, hlo, hK, -⟩ := C
  obtain ⟨hS, hfc, kC, hkC, hkind⟩ := hK.1 cl hc
  obtain ⟨cf, kf, fi, f, hi, hsl⟩ := hS k hk
  refine W.getf hx hb hown (hts _ hw) (by rw [← c_dec hc hk]; exact hi) (u_facts hfc hkC (u_lays hts (c_in hc) hk) hi).1 q1 (by rw [q3]; exact fun z => by cases z) (v := fvv Z.2.2.1 cl k (μ a k) (ρ a k)) ?_ rfl rfl hd kk
  rw [hsl, q4 k (by omega)]
theorem s_getI (C : Cx Z d j own p R s m args meth c) {cl n k idx : Nat} (hw : Cond.fieldLink own idx (cR cl) (cT cl k).2.1 (cT cl k).2.2.1 ∈ lw_good) (hd : decode j.2.1 pc = .ok (.getfield idx, 3)) (hc : (cOK cl && (decide (k < cN cl) && !isR cl k)) = true)
    (k1 : Sd Z j p e R s m args below meth c Q (pc + 3) t) : Sd Z j p e R s m args below meth c Q pc (tGetI cl n k t) := by
  simp only [Bool.and_eq_true, decide_eq_true_eq, Bool.not_eq_true'] at hc
  intro L st S q μ ρ h H locs ls hH hB hl hL
  unfold tGetI at h
  split at h
  · rename_i a st
    refine get_core C hc.1 hc.2.1 hw hd h.1 hH ?_
    have e1 : fvv Z.2.2.1 cl k (μ a k) (ρ a k) = .int (μ a k) := by simp [fvv, hc.2.2]
    rw [e1]
    exact k1 L _ S q μ ρ h.2 H locs ls hH hB hl hL
  · exact h.elim
theorem s_getR (C : Cx Z d j own p R s m args meth c) {cl n k idx : Nat} (hw : Cond.fieldLink own idx (cR cl) (cT cl k).2.1 (cT cl k).2.2.1 ∈ lw_good) (hd : decode j.2.1 pc = .ok (.getfield idx, 3)) (hc : (cOK cl && (decide (k < cN cl) && isR cl k)) = true)
    (k1 : Sd Z j p e R s m args below meth c Q (pc + 3) t) : Sd Z j p e R s m args below meth c Q pc (tGetR cl n k t) := by
  simp only [Bool.and_eq_true, decide_eq_true_eq] at hc
  intro L st S q μ ρ h H locs ls hH hB hl hL
  unfold tGetR at h
  split at h
  · rename_i a st
    refine get_core C hc.1 hc.2.1 hw hd h.1 hH ?_
    have e1 : fvv Z.2.2.1 cl k (μ a k) (ρ a k) = .ref (Z.2.2.1 + ρ a k) := by simp [fvv, hc.2.2, rv, h.2.1]
    rw [e1]
    exact k1 L _ S q μ ρ h.2.2 H locs ls hH hB hl hL
  · exact h.elim
theorem put_core (C : Cx Z d j own p R s m args meth c) {cl n k idx : Nat} (hc : cOK cl = true) (hk : k < cN cl) (hw : Cond.fieldLink own idx (cR cl) (cT cl k).2.1 (cT cl k).2.2.1 ∈ lw_good) (hd : decode j.2.1 pc = .ok (.putfield idx, 3))
    (hfin : (cT cl k).2.2.2 = false ∨ ((cT cl k).2.2.2 = true ∧ j.1.name = "<init>" ∧ own = cR cl)) {v : Value} (hn : narrow (cTy cl k) v = v) (hfit : fits (cTy cl k) v = true)
    {a : Nat} {S : Sh} {μ μ' : Mi} {ρ ρ' : Mr} (h1 : S.2 a = (cl, n)) (hμ : ∀ b, b ≠ a → μ' b = μ b) (hρ : ∀ b, b ≠ a → ρ' b = ρ b) (hv : ∀ i, fvv Z.2.2.1 cl i (μ' a i) (ρ' a i) = updV (fun i => fvv Z.2.2.1 cl i (μ a i) (ρ a i)) k v i)
    {H : Heap} {locs : List Loc} {ls : Array Slot} {q : Nat × Nat} {rest : List Value} (hH : HR Z.2.1 Z.2.2.1 S μ ρ H) (hB : ∀ a : Nat, a ≤ Z.2.2.1 → H[a]? = s.heap[a]?) (hl : LO Z R q locs)
    (kk : ∀ (H' : Heap) (locs' : List Loc), HR Z.2.1 Z.2.2.1 S μ' ρ' H' → (∀ a : Nat, a ≤ Z.2.2.1 → H'[a]? = s.heap[a]?) → LO Z R q locs' → W p Z.1 e R s m args below meth c H' locs' q.1 q.2 Q (F0 m (pc + 3) ls rest)) :
    W p Z.1 e R s m args below meth c H locs q.1 q.2 Q (F0 m pc ls (v :: .ref (Z.2.2.1 + a) :: rest)) := by
  obtain ⟨ha1, hnn, cell, q1, q2, q3, q4⟩ := hH.obj h1 hc
  obtain ⟨hx, hb, hml, hown, hts, hr, hlo, hK, hE, hEO, hR, hnm⟩ := C
  have hap := c_apart hts hK hc
  obtain ⟨hS, hfc, kC, hkC, hkind⟩ := hK.1 cl hc
  obtain ⟨cf, kf, fi, f, hi, hsl⟩ := hS k hk
  have hst := (u_facts hfc hkC (u_lays hts (c_in hc) hk) hi).1
  have hty := c_ty hc k hk
  have hi' : s.fieldFound? (cR cl) (cT cl k).2.1 (cT cl k).2.2.1 = some (cf, kf, fi, f) := by rw [← c_dec hc hk]; exact hi
  have hlt : f.slot < cell.slots.size := by rw [hsl]; exact k2_hasslot (q4 k (by omega))
  have done : ∀ H' : Heap, H'[Z.2.2.1 + a]? = some (cell.setSlot f.slot v) → H'.size = H.size → (∀ q : Nat, q ≠ Z.2.2.1 + a → H'[q]? = H[q]?) → W p Z.1 e R s m args below meth c H' (locs ++ [⟨Z.2.2.1 + a, f.slot⟩]) q.1 q.2 Q (F0 m (pc + 3) ls rest) := by
    intro H' e1 e2 e3
    refine kk H' _ (hH.upd e2 e3 hμ hρ ?_) (fun b hb => by rw [e3 b (by omega)]; exact hB b hb) ⟨fun x hx => ?_, hl.2⟩
    · rw [h1]
      refine Or.inl ⟨hc, hnn, _, e1, q2, q3, fun i hi2 => ?_⟩
      show _ = some (fvv Z.2.2.1 cl i (μ' a i) (ρ' a i))
      rw [hv i, hsl]
      exact t_set (N := cN cl) (fun i hi => q4 i (by omega)) hap hk v i (by rw [hnn] at hi2; exact hi2)
    · rcases List.mem_append.mp hx with h | h
      · exact hl.1 x h
      · rw [List.mem_singleton.mp h]
        show Z.2.2.1 < Z.2.2.1 + a
        omega
  have hlay := hts _ (c_in hc _ (u_in_lay hk))
  unfold u_lay at hlay
  rcases hfin with hf | ⟨hf, hin, ho⟩
  · rw [if_neg (by rw [hf]; decide)] at hlay
    have h6 := u_store hfc hkC hkind hlay hi hty hn hfit
    exact W.putK hx hb (f := f) ⟨hown, hts _ hw, ⟨_, _, _, hi'⟩, hst⟩ (by rw [q2]; exact h6) q1 q3 hlt rfl rfl hd done
  · rw [if_pos hf] at hlay
    have hcf : m.cls = cf := by
      obtain ⟨_, _, c', _, _, _, -, -, hf', -, -, -, hown2, -⟩ := Cond.laysFinal_spec hlay
      have e1 : c' = cf := by have := hi.symm.trans hf'; simp at this; exact this.1.symm
      rw [c_dec hc hk, ← ho] at hown2
      rw [← e1]; exact Option.some.inj (hown.symm.trans hown2)
    have h6 := u_fits hfc hkC hkind (Or.inr hlay) hi hty hn hfit
    exact W.putFinK hx hb hown (hts _ hw) hi' hst hcf (by rw [hnm]; exact hin) (by rw [q2]; exact h6) q1 q3 hlt rfl rfl hd done
def tPutI (cl n k : Nat) (t : PT) : PT := fun L st S q μ ρ => match st with
  | .int x :: .ref a :: st => S.2 a = (cl, n) ∧ t L st S q (upI μ a k x) ρ
  | _ => False
def tPutZ (cl n k : Nat) (t : PT) : PT := fun L st S q μ ρ => match st with
  | .int x :: .ref a :: st => S.2 a = (cl, n) ∧ (x = 0 ∨ x = 1) ∧ t L st S q (upI μ a k x) ρ
  | _ => False
def tPutR (cl n k : Nat) (t : PT) : PT := fun L st S q μ ρ => match st with
  | .ref x :: .ref a :: st => S.2 a = (cl, n) ∧ x ≠ 0 ∧ t L st S q μ (upR ρ a k x)
  | _ => False
theorem upI_ne {μ : Mi} {a k : Nat} {x : Int32} {b : Nat} (h : b ≠ a) : upI μ a k x b = μ b := by funext i; simp [upI, h]
theorem upR_ne {ρ : Mr} {a k : Nat} {x : Nat} {b : Nat} (h : b ≠ a) : upR ρ a k x b = ρ b := by funext i; simp [upR, h]
theorem fv_upI {B cl : Nat} {μ : Mi} {ρ : Mr} {a k : Nat} {x : Int32} (hr : isR cl k = false) (i : Nat) : fvv B cl i (upI μ a k x a i) (ρ a i) = updV (fun i => fvv B cl i (μ a i) (ρ a i)) k (.int x) i := by
  by_cases h : i = k
  · subst h; simp [fvv, upI, updV, hr]
  · simp [fvv, upI, updV, h]
theorem fv_upR {B cl : Nat} {μ : Mi} {ρ : Mr} {a k : Nat} {x : Nat} (hr : isR cl k = true) (hx : x ≠ 0) (i : Nat) : fvv B cl i (μ a i) (upR ρ a k x a i) = updV (fun i => fvv B cl i (μ a i) (ρ a i)) k (.ref (B + x)) i := by
  by_cases h : i = k
  · subst h; simp [fvv, upR, updV, hr, rv, hx]
  · simp [fvv, upR, updV, h]
def finOK (cl k : Nat) (nm own : String) : Prop := (cT cl k).2.2.2 = false ∨ ((cT cl k).2.2.2 = true ∧ nm = "<init>" ∧ own = cR cl)
theorem s_putI (C : Cx Z d j own p R s m args meth c) {cl n k idx : Nat} (hw : Cond.fieldLink own idx (cR cl) (cT cl k).2.1 (cT cl k).2.2.1 ∈ lw_good) (hd : decode j.2.1 pc = .ok (.putfield idx, 3)) (hc : (cOK cl && (decide (k < cN cl) && decide (cTy cl k = .int))) = true) (hf : finOK cl k j.1.name own)
    (k1 : Sd Z j p e R s m args below meth c Q (pc + 3) t) : Sd Z j p e R s m args below meth c Q pc (tPutI cl n k t) := by
  simp only [Bool.and_eq_true, decide_eq_true_eq] at hc
  have hr : isR cl k = false := by simp [isR, hc.2.2]
  intro L st S q μ ρ h H locs ls hH hB hl hL
  unfold tPutI at h
  split at h
  · exact put_core C hc.1 hc.2.1 hw hd hf (by rw [hc.2.2]; rfl) (by rw [hc.2.2]; rfl) h.1 (fun b hb => upI_ne hb) (fun _ _ => rfl) (fv_upI hr) hH hB hl (fun H' locs' hH' hB' hl' => k1 L _ S q _ ρ h.2 H' locs' ls hH' hB' hl' hL)
  · exact h.elim
theorem s_putZ (C : Cx Z d j own p R s m args meth c) {cl n k idx : Nat} (hw : Cond.fieldLink own idx (cR cl) (cT cl k).2.1 (cT cl k).2.2.1 ∈ lw_good) (hd : decode j.2.1 pc = .ok (.putfield idx, 3)) (hc : (cOK cl && (decide (k < cN cl) && decide (cTy cl k = .boolean))) = true) (hf : finOK cl k j.1.name own)
    (k1 : Sd Z j p e R s m args below meth c Q (pc + 3) t) : Sd Z j p e R s m args below meth c Q pc (tPutZ cl n k t) := by
  simp only [Bool.and_eq_true, decide_eq_true_eq] at hc
  have hr : isR cl k = false := by simp [isR, hc.2.2]
  intro L st S q μ ρ h H locs ls hH hB hl hL
  unfold tPutZ at h
  split at h
  · exact put_core C hc.1 hc.2.1 hw hd hf (by rw [hc.2.2]; rcases h.2.1 with rfl | rfl <;> rfl) (by rw [hc.2.2]; rcases h.2.1 with rfl | rfl <;> rfl) h.1 (fun b hb => upI_ne hb) (fun _ _ => rfl) (fv_upI hr) hH hB hl (fun H' locs' hH' hB' hl' => k1 L _ S q _ ρ h.2.2 H' locs' ls hH' hB' hl' hL)
  · exact h.elim
theorem s_putR (C : Cx Z d j own p R s m args meth c) {cl n k idx : Nat} (hw : Cond.fieldLink own idx (cR cl) (cT cl k).2.1 (cT cl k).2.2.1 ∈ lw_good) (hd : decode j.2.1 pc = .ok (.putfield idx, 3)) (hc : (cOK cl && (decide (k < cN cl) && isR cl k)) = true) (hf : finOK cl k j.1.name own)
    (k1 : Sd Z j p e R s m args below meth c Q (pc + 3) t) : Sd Z j p e R s m args below meth c Q pc (tPutR cl n k t) := by
  simp only [Bool.and_eq_true, decide_eq_true_eq] at hc
  have hr : isR cl k = true := hc.2.2
  have hty : (∃ x, cTy cl k = .object x) ∨ ∃ x, cTy cl k = .array x := by
    unfold isR at hr
    split at hr
    · exact Or.inl ⟨_, by assumption⟩
    · exact Or.inr ⟨_, by assumption⟩
    · cases hr
  intro L st S q μ ρ h H locs ls hH hB hl hL
  unfold tPutR at h
  split at h
  · exact put_core C hc.1 hc.2.1 hw hd hf (by rcases hty with ⟨x, e⟩ | ⟨x, e⟩ <;> (rw [e]; rfl)) (by rcases hty with ⟨x, e⟩ | ⟨x, e⟩ <;> (rw [e]; rfl)) h.1 (fun _ _ => rfl) (fun b hb => upR_ne hb) (fv_upR hr h.2.1) hH hB hl (fun H' locs' hH' hB' hl' => k1 L _ S q μ _ h.2.2 H' locs' ls hH' hB' hl' hL)
  · exact h.elim
end Heap
