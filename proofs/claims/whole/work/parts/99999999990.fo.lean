/-! ===== the law, from its entry ===== -/
section Law3
variable {Z : Zt} {p : Program} {e : Env} {s : State} {m : MethodId} {below : List Frame} {meth : Method} {c : Code} {b L : Nat} {xs : Nat → Int32} {S : Sh} {μ : Mi} {ρ : Mr} {pc : Nat} {ls : Array Slot} {H : Heap} {locs : List Loc} {cells slots : Nat}
theorem l_new (C : LwC Z p s m meth c b L xs) {cl n idx : Nat} {rest : List Value} (hn : (cOK cl && decide (n = cN cl)) = true) (hw1 : Cond.classLink RL idx (cR cl) ∈ lw_good) (hw2 : Cond.instantiable (cR cl) n ∈ lw_good) (hw3 : Cond.initialized (cR cl) ∈ lw_good) (hd : decode code pc = .ok (.new idx, 3)) (hH : HR Z.2.1 Z.2.2.1 S μ ρ H) (hB : ∀ a : Nat, a ≤ Z.2.2.1 → H[a]? = s.heap[a]?)
    (r1 : cells + 1 ≤ 600000) (r2 : slots + n ≤ 7302250)
    (k : ∀ H1 : Heap, HR Z.2.1 Z.2.2.1 (S.1 + 1, upK S.2 S.1 (cl, n)) (upF μ S.1 (fun _ => 0)) (upF ρ S.1 (fun _ => 0)) H1 → (∀ a : Nat, a ≤ Z.2.2.1 → H1[a]? = s.heap[a]?) → W p Z.1 e room_1 s m #[Value.ref b] below meth c H1 locs (cells + 1) (slots + n) (lw_Z below #[Value.ref b] s) (F0 m (pc + 3) ls (.ref (Z.2.2.1 + S.1) :: rest))) :
    W p Z.1 e room_1 s m #[Value.ref b] below meth c H locs cells slots (lw_Z below #[Value.ref b] s) (F0 m pc ls rest) := by
  simp only [Bool.and_eq_true, decide_eq_true_eq] at hn
  obtain ⟨hc, hn⟩ := hn
  obtain ⟨hx, hb, hml, hown, hts, hK, hE, hEO, hX, hbl, hsz, hL3, -⟩ := C
  have hKn := hK.1 cl hc
  refine W.newcK hx hb hown (hts _ hw1) (hts _ hw2) (hts _ hw3) rfl hd r1 r2 hKn.2.1 rfl fun H1 kC hkC e1 z1 o1 => ?_
  have hsz : H.size = Z.2.2.1 + S.1 := hH.1
  have hS1 := hH.2.1
  have hob := u_born (cTy cl) hts (c_in hc) hKn hkC e1 (c_ty hc)
  have key := k H1 (hH.push z1 o1 (Or.inl ⟨hc, hn, ?_⟩)) (fun b hb => by rw [o1 b (by omega)]; exact hB b hb)
  · rw [← hsz] at key
    exact key
  · obtain ⟨cell, g1, g2, g3, g4⟩ := hob
    refine ⟨cell, g1, g2, g3, fun k hk => ?_⟩
    have hk' : k < cN cl := by rw [← hn]; exact hk
    rw [g4 k hk']
    exact congrArg some (dv_ok Z.2.2.1 hc hk')
theorem l_init (C : LwC Z p s m meth c b L xs) {j2 : Jm} {idx a x : Nat} {Post : RT} (hm : metaOK j2 0 = true) (hn : j2.1.name = "<init>" ∧ j2.2.2.2.1 = none) (hw1 : Cond.methodLink RL idx j2.1 ∈ lw_good) (hw2 : Cond.instanceMethod j2.1 ∈ lw_good)
    (hw4 : Cond.initialized j2.1.cls ∈ lw_good) (hw5 : Cond.code j2.1 j2.2.1 j2.2.2.1 j2.2.2.2.1 ∈ lw_good) (hd : decode code pc = .ok (.invokespecial idx, 3)) (hH : HR Z.2.1 Z.2.2.1 S μ ρ H) (hB : ∀ a : Nat, a ≤ Z.2.2.1 → H[a]? = s.heap[a]?) (hl : ∀ x ∈ locs, Z.2.2.1 < x.base) (hL : ls.size = 4)
    (r1 : cells + j2.2.2.2.2.1 ≤ 600000) (r2 : slots + j2.2.2.2.2.2 ≤ 7302250) (hM : MS Z 100 j2 [.ref a] S μ ρ Post)
    (k : ∀ r S' μ' ρ', Post r S' μ' ρ' → r = none ∧ ∀ (H' : Heap) (locs' : List Loc), HR Z.2.1 Z.2.2.1 S' μ' ρ' H' → (∀ a : Nat, a ≤ Z.2.2.1 → H'[a]? = s.heap[a]?) → (∀ x ∈ locs', Z.2.2.1 < x.base) →
      W p Z.1 e room_1 s m #[Value.ref b] below meth c H' locs' (cells + j2.2.2.2.2.1) (slots + j2.2.2.2.2.2) (lw_Z below #[Value.ref b] s) (F0 m (pc + 3) ls [.ref x])) :
    W p Z.1 e room_1 s m #[Value.ref b] below meth c H locs cells slots (lw_Z below #[Value.ref b] s) (F0 m pc ls [.ref (Z.2.2.1 + a), .ref x]) := by
  simp only [metaOK, Bool.and_eq_true, decide_eq_true_eq] at hm
  obtain ⟨hx, hb, hml, hown, hts, hK, hE, hEO, hX, hbl, hsz, hL3, -⟩ := C
  have hM := hM hEO
  have rk : (rmS 100 j2).frames + 1 ≤ room_1.frames ∧ 8 + (j2.2.2.1 + 11) + (rmS 100 j2).locals ≤ room_1.locals := by
    have h45 := hm.2.2.2
    show 100 + 1 + 1 ≤ 2048 ∧ 8 + (j2.2.2.1 + 11) + 64 * (100 + 1) ≤ 84000
    omega
  have run := va_runI (R := room_1) (H := H) (locs := locs) (cells := cells) (slots := slots) (below := below) (e := e) (meth := meth) (bytes := j2.2.1) (maxL := j2.2.2.1) (As := []) (rest := [.ref x]) (b := Z.2.2.1 + a) (g := F0 m pc ls [.ref (Z.2.2.1 + a), .ref x]) (index := idx) (n := 0) (own := RL) (Ts := lw_good) (nL := 4) (cc := code) ⟨hx, hb, hml, hown, hts⟩ hM
    ⟨callB_of (ws' := lw_good) 0 hts (good_cons hw5) (by unfold wsS1; rw [hn.2]) rfl rfl (hts _ hw4) (hts _ hw1) ⟨hm.1, hm.2.1, hm.2.2.1⟩ rk, hn.1, hts _ hw2⟩
    ⟨PcS.blind Z _ S μ ρ hEO, fun U hU hW => ⟨rfl, by rw [hU]; exact hH, hK.warm hW, hEO s U hW (fun b hb => by rw [hU]; exact hB b hb) hE⟩⟩
    rfl rfl (by show ls.size = _; exact hL) rfl (by show 2 * 0 + 1 ≤ 8; omega) hd ⟨r1, r2⟩
  intro T hT X
  obtain ⟨v, st₀, T1, T', Lo, h0, X', hLo, e1, e2, ⟨r, S', μ', ρ', hv, hp, hH', hb'⟩, st⟩ := run T hT X
  obtain ⟨rfl, k2⟩ := k r S' μ' ρ' hp
  cases hv
  have key := k2 T'.heap (locs ++ Lo) (by rw [e1]; exact hH') (fun a ha => by rw [e1, hb' a ha, h0]; exact hB a ha) (fun x hx => (List.mem_append.mp hx).elim (hl x) (hLo x))
  obtain ⟨t2, a1, b1⟩ := key T' rfl X'
  exact ⟨t2, st t2 a1, b1⟩
end Law3
set_option maxHeartbeats 4000000 in
theorem whole_start {p : Program} {e : Env} {s : State} {m : MethodId} {below : List Frame} {meth : Method} {c : Code} (l : Launch) (hflags : l.flags = flags0) {b L : Nat} {xs : Nat → Int32} (hL : L ≤ 3072) (C0 : lw_At p s m meth c b L xs) : W p l e room_1 s m #[Value.ref b] below meth c s.heap [] 0 0 (lw_Z below #[Value.ref b] s) (entryFrame m ([Value.ref b] : List Value).toArray 4) := by
  obtain ⟨hx, hb, hr, hml, hown, hts, hX, hbl, hlocks, hgv⟩ := C0
  obtain ⟨B, hBz⟩ : ∃ B : Nat, s.heap.size = B + 1 := ⟨s.heap.size - 1, by omega⟩
  obtain ⟨D, hK⟩ := Kd_start hts
  obtain ⟨X, hE⟩ := XEv_start (B := B) hts hgv (by omega)
  have C : LwC (l, D, B, X, XEv B X) p s m meth c b L xs := ⟨hx, hb, hml, hown, fun w hw => hts w (List.mem_filter.mp hw).1, hK, hE, XEv_ok, hX, hbl, hBz, hL, hr, hlocks, fun U h => h⟩
  have hH0 : HR D B (1, fun _ => (99, 0)) (fun _ _ => 0) (fun _ _ => 0) s.heap := ⟨hBz, Nat.le_refl 1, fun a ha => absurd (show (99 : Nat) < 50 from ha) (by decide)⟩
  have hl := lv_entry ([.ref b]) (n := 4) (Nat.le_of_ble_eq_true rfl)
  rw [lg_entry_eq]
  generalize (lg_sl ([.ref b]) ++ List.replicate (4 - (lg_sl ([.ref b])).length) Slot.unset).toArray = ls at hl ⊢
  have hl : lv_has ls 4 [(0, .ref b)] := hl
  refine l_new (Z := (l, D, B, X, XEv B X)) (cl := 11) (n := 11) (idx := 7) C rfl w_1_22 w_1_23 w_1_1 (show decode code 0 = .ok (.new 7, 3) by decide +kernel) hH0 (fun _ _ => rfl) (by decide) (by decide) (fun H1 hH1 hB1 => ?_)
  refine lv_dup hx hb (show decode code 3 = .ok (.dup, 1) by decide +kernel) rfl ?_
  refine l_init (Z := (l, D, B, X, XEv B X)) (j2 := jX11_init) (idx := 9) (a := 1) (x := B + 1) (Post := fun r S' μ' ρ' => r = none ∧ AK 9 2 S' μ' ρ') C (by decide +kernel) ⟨rfl, rfl⟩ w_1_24 w_1_25 w_1_1 w_1_26 (show decode code 4 = .ok (.invokespecial 9, 3) by decide +kernel) hH1 hB1 (fun x hx => absurd hx List.not_mem_nil) hl.1 (Nat.le_of_ble_eq_true rfl) (Nat.le_of_ble_eq_true rfl) (f_X11_init (d := 93) rfl rfl (fun S' μ' ρ' h => ⟨rfl, h⟩)) (fun r S1 μ1 ρ1 h => ⟨h.1, fun H2 locs2 hH2 hB2 hl2 => ?_⟩)
  have hAK := h.2
  have hS1 : S1.1 = 2737 := hAK.1
  refine lv_astore_n (lv' := [(1, .ref (B + 1)), (0, .ref b)]) hx hb (show decode code 7 = .ok (.astore_n 1, 1) by decide +kernel) rfl hl (by decide) rfl (fun ls2 hls2 => ?_)
  refine l_new (Z := (l, D, B, X, XEv B X)) (cl := 12) (n := 27) (idx := 10) C rfl w_6_71 w_6_72 w_1_13 (show decode code 8 = .ok (.new 10, 3) by decide +kernel) hH2 hB2 (Nat.le_of_ble_eq_true rfl) (Nat.le_of_ble_eq_true rfl) (fun H3 hH3 hB3 => ?_)
  rw [hS1] at hH3 ⊢
  refine lv_dup hx hb (show decode code 11 = .ok (.dup, 1) by decide +kernel) rfl ?_
  refine l_init (Z := (l, D, B, X, XEv B X)) (j2 := jX12_init) (idx := 12) (a := 2737) (x := B + 2737) (Post := fun r S' μ' ρ' => r = none ∧ I12 (2738, upK S1.2 2737 (12, 27)) (upF μ1 2737 (fun _ => 0)) (upF ρ1 2737 (fun _ => 0)) S' μ' ρ') C (by decide +kernel) ⟨rfl, rfl⟩ w_6_73 w_6_74 w_1_13 w_6_75 (show decode code 12 = .ok (.invokespecial 12, 3) by decide +kernel) hH3 hB3 hl2 hls2.1 (Nat.le_of_ble_eq_true rfl) (Nat.le_of_ble_eq_true rfl) (f_X12_init (d := 97) rfl (by show upK S1.2 2737 (12, 27) 2737 = (12, 27); exact upK_at) upF_same (fun S' μ' ρ' h => ⟨rfl, h⟩)) (fun r S4 μ4 ρ4 h => ⟨h.1, fun H5 locs5 hH5 hB5 hl5 => ?_⟩)
  have hI := h.2
  have hLw : LwI S4 μ4 ρ4 := by
    refine Lw_start hAK ⟨hI.1, fun y hy => ?_, hI.2.2⟩
    obtain ⟨q1, q2, q3⟩ := hI.2.1 y hy
    refine ⟨q1.trans (upK_ne (by omega)), q2.trans (upF_ne (by omega)), q3.trans (upFr_ne (by omega))⟩
  refine lv_astore_n (lv' := [(2, .ref (B + 2737)), (1, .ref (B + 1)), (0, .ref b)]) hx hb (show decode code 15 = .ok (.astore_n 2, 1) by decide +kernel) rfl hls2 (by decide) rfl (fun ls3 hls3 => ?_)
  refine lv_iconst (v := 0) hx hb (show decode code 16 = .ok (.iconst 0, 1) by decide +kernel) (by decide) ?_
  refine lv_istore_n (lv' := [(3, .int 0), (2, .ref (B + 2737)), (1, .ref (B + 1)), (0, .ref b)]) hx hb (show decode code 17 = .ok (.istore_n 3, 1) by decide +kernel) rfl hls3 (by decide) rfl (fun ls4 hls4 => ?_)
  exact law_loop C 600 0 μ4 ρ4 (by omega) (by omega) hLw H5 locs5 ls4 hH5 hB5 hl5 (lv_sub hls4 [3, 2, 1, 0] rfl)
