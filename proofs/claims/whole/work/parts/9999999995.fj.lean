/-! ===== the law: every call, on the class and then on the reference ===== -/
def Cs2 (Z : Zt) (j1 j2 : Jm) (As : List Value) (S : Sh) (μ : Mi) (ρ : Mr) : Prop := MS Z 100 j1 (.ref 1 :: As) S μ ρ (fun r S' μ' ρ' => ∃ v : Int32, r = some (.int v) ∧ S' = S ∧ MS Z 100 j2 (.ref 2737 :: As) S' μ' ρ' (fun r' S'' μ'' ρ'' => r' = some (.int v) ∧ S'' = S ∧ LwI S'' μ'' ρ''))
section Cases
variable {Z : Zt} {S : Sh} {μ : Mi} {ρ : Mr}
theorem RS_KR {S : Sh} {ρ ρ' : Mr} (h : RS S ρ) (k : KR ρ ρ') : RS S ρ' := by
  unfold RS at *
  rw [k 2737 (by omega)]; exact h
theorem cs_begin {x : Int32} (h : LwI S μ ρ) : Cs2 Z jX11_begin jX12_begin [.int x] S μ ρ := by
  obtain ⟨u, z0, h⟩ := h
  have ht := h.1
  have hg := h.2.1
  have hk := h.2.2.2.2.1
  have h8 := LU_rg h
  refine f_X11_begin ?_
  dsimp only [F_X11_begin]
  refine ⟨ht.1.1, rfl, _, _, _, ht, hg, fun μ1 ρ1 tp kt kr => ⟨_, rfl, rfl, ?_⟩⟩
  have e37 := kt.1 2737 (by omega)
  have e38 := kt.1 2738 (by omega)
  have e39 := kt.1 2739 (by omega)
  refine f_X12_begin ?_
  dsimp only [F_X12_begin]
  rw [e37, e38, e39]
  exact ⟨rfl, RS_KR hk.1 kr, h8, fun μ2 rq => ⟨rfl, rfl, LI_act h (Gd_a0 hg) (Hj_a0) tp kt kr rq⟩⟩
theorem cs_careful {x : Int32} (h : LwI S μ ρ) : Cs2 Z jX11_careful jX12_careful [.int x] S μ ρ := by
  obtain ⟨u, z0, h⟩ := h
  have ht := h.1
  have hg := h.2.1
  have hk := h.2.2.2.2.1
  have h8 := LU_rg h
  refine f_X11_careful ?_
  dsimp only [F_X11_careful]
  refine ⟨ht.1.1, rfl, _, _, _, ht, hg, fun μ1 ρ1 tp kt kr => ⟨_, rfl, rfl, ?_⟩⟩
  have e37 := kt.1 2737 (by omega)
  have e38 := kt.1 2738 (by omega)
  have e39 := kt.1 2739 (by omega)
  refine f_X12_careful ?_
  dsimp only [F_X12_careful]
  rw [e37, e38, e39]
  exact ⟨rfl, RS_KR hk.1 kr, Gd_good hg, h8, fun μ2 rq => ⟨rfl, rfl, LI_act h (Gd_a15 hg) (Hj_a15) tp kt kr rq⟩⟩
theorem cs_timeout {x : Int32} (h : LwI S μ ρ) : Cs2 Z jX11_timeout jX12_timeout [.int x] S μ ρ := by
  obtain ⟨u, z0, h⟩ := h
  have ht := h.1
  have hg := h.2.1
  have hk := h.2.2.2.2.1
  have h8 := LU_rg h
  refine f_X11_timeout ?_
  dsimp only [F_X11_timeout]
  refine ⟨ht.1.1, rfl, _, _, _, ht, hg, fun μ1 ρ1 tp kt kr => ⟨_, rfl, rfl, ?_⟩⟩
  have e37 := kt.1 2737 (by omega)
  have e38 := kt.1 2738 (by omega)
  have e39 := kt.1 2739 (by omega)
  refine f_X12_timeout ?_
  dsimp only [F_X12_timeout]
  rw [e37, e38, e39]
  exact ⟨rfl, RS_KR hk.1 kr, Gd_good hg, h8, fun μ2 rq => ⟨rfl, rfl, LI_act h (Gd_a1 hg) (Hj_a1 (Gd_good hg)) tp kt kr rq⟩⟩
theorem cs_beat {x : Int32} (h : LwI S μ ρ) : Cs2 Z jX11_beat jX12_beat [.int x] S μ ρ := by
  obtain ⟨u, z0, h⟩ := h
  have ht := h.1
  have hg := h.2.1
  have hk := h.2.2.2.2.1
  have h8 := LU_rg h
  refine f_X11_beat ?_
  dsimp only [F_X11_beat]
  refine ⟨ht.1.1, rfl, _, _, _, ht, hg, fun μ1 ρ1 tp kt kr => ⟨_, rfl, rfl, ?_⟩⟩
  have e37 := kt.1 2737 (by omega)
  have e38 := kt.1 2738 (by omega)
  have e39 := kt.1 2739 (by omega)
  refine f_X12_beat ?_
  dsimp only [F_X12_beat]
  rw [e37, e38, e39]
  exact ⟨rfl, RS_KR hk.1 kr, Gd_good hg, h8, fun μ2 rq => ⟨rfl, rfl, LI_act h (Gd_a2 hg) (Hj_a2 (Gd_good hg)) tp kt kr rq⟩⟩
theorem cs_propose {x y z w : Int32} (h : LwI S μ ρ) : Cs2 Z jX11_propose jX12_propose [.int x, .int y, .int z, .int w] S μ ρ := by
  obtain ⟨u, z0, h⟩ := h
  have ht := h.1
  have hg := h.2.1
  have hk := h.2.2.2.2.1
  have h8 := LU_rg h
  refine f_X11_propose ?_
  dsimp only [F_X11_propose]
  refine ⟨ht.1.1, rfl, _, _, _, ht, hg, fun μ1 ρ1 tp kt kr => ⟨_, rfl, rfl, ?_⟩⟩
  have e37 := kt.1 2737 (by omega)
  have e38 := kt.1 2738 (by omega)
  have e39 := kt.1 2739 (by omega)
  refine f_X12_propose ?_
  dsimp only [F_X12_propose]
  rw [e37, e38, e39]
  exact ⟨rfl, RS_KR hk.1 kr, Gd_good hg, h8, fun μ2 rq => ⟨rfl, rfl, LI_act h (Gd_a3 hg) (Hj_a3 (Gd_good hg)) tp kt kr rq⟩⟩
theorem cs_read {x y : Int32} (h : LwI S μ ρ) : Cs2 Z jX11_read jX12_read [.int x, .int y] S μ ρ := by
  obtain ⟨u, z0, h⟩ := h
  have ht := h.1
  have hg := h.2.1
  have hk := h.2.2.2.2.1
  have h8 := LU_rg h
  refine f_X11_read ?_
  dsimp only [F_X11_read]
  refine ⟨ht.1.1, rfl, _, _, _, ht, hg, fun μ1 ρ1 tp kt kr => ⟨_, rfl, rfl, ?_⟩⟩
  have e37 := kt.1 2737 (by omega)
  have e38 := kt.1 2738 (by omega)
  have e39 := kt.1 2739 (by omega)
  refine f_X12_read ?_
  dsimp only [F_X12_read]
  rw [e37, e38, e39]
  exact ⟨rfl, RS_KR hk.1 kr, Gd_good hg, h8, fun μ2 rq => ⟨rfl, rfl, LI_act h (Gd_a4 hg) (Hj_a4 (Gd_good hg)) tp kt kr rq⟩⟩
theorem cs_hand {x y : Int32} (h : LwI S μ ρ) : Cs2 Z jX11_hand jX12_hand [.int x, .int y] S μ ρ := by
  obtain ⟨u, z0, h⟩ := h
  have ht := h.1
  have hg := h.2.1
  have hk := h.2.2.2.2.1
  have h8 := LU_rg h
  refine f_X11_hand ?_
  dsimp only [F_X11_hand]
  refine ⟨ht.1.1, rfl, _, _, _, ht, hg, fun μ1 ρ1 tp kt kr => ⟨_, rfl, rfl, ?_⟩⟩
  have e37 := kt.1 2737 (by omega)
  have e38 := kt.1 2738 (by omega)
  have e39 := kt.1 2739 (by omega)
  refine f_X12_hand ?_
  dsimp only [F_X12_hand]
  rw [e37, e38, e39]
  exact ⟨rfl, RS_KR hk.1 kr, Gd_good hg, h8, fun μ2 rq => ⟨rfl, rfl, LI_act h (Gd_a5 hg) (Hj_a5 (Gd_good hg)) tp kt kr rq⟩⟩
theorem cs_change {x y : Int32} (h : LwI S μ ρ) : Cs2 Z jX11_change jX12_change [.int x, .int y] S μ ρ := by
  obtain ⟨u, z0, h⟩ := h
  have ht := h.1
  have hg := h.2.1
  have hk := h.2.2.2.2.1
  have h8 := LU_rg h
  refine f_X11_change ?_
  dsimp only [F_X11_change]
  refine ⟨ht.1.1, rfl, _, _, _, ht, hg, fun μ1 ρ1 tp kt kr => ⟨_, rfl, rfl, ?_⟩⟩
  have e37 := kt.1 2737 (by omega)
  have e38 := kt.1 2738 (by omega)
  have e39 := kt.1 2739 (by omega)
  refine f_X12_change ?_
  dsimp only [F_X12_change]
  rw [e37, e38, e39]
  exact ⟨rfl, RS_KR hk.1 kr, Gd_good hg, h8, fun μ2 rq => ⟨rfl, rfl, LI_act h (Gd_a6 hg) (Hj_a6 (Gd_good hg)) tp kt kr rq⟩⟩
theorem cs_compact {x : Int32} (h : LwI S μ ρ) : Cs2 Z jX11_compact jX12_compact [.int x] S μ ρ := by
  obtain ⟨u, z0, h⟩ := h
  have ht := h.1
  have hg := h.2.1
  have hk := h.2.2.2.2.1
  have h8 := LU_rg h
  refine f_X11_compact ?_
  dsimp only [F_X11_compact]
  refine ⟨ht.1.1, rfl, _, _, _, ht, hg, fun μ1 ρ1 tp kt kr => ⟨_, rfl, rfl, ?_⟩⟩
  have e37 := kt.1 2737 (by omega)
  have e38 := kt.1 2738 (by omega)
  have e39 := kt.1 2739 (by omega)
  refine f_X12_compact ?_
  dsimp only [F_X12_compact]
  rw [e37, e38, e39]
  exact ⟨rfl, RS_KR hk.1 kr, Gd_good hg, h8, fun μ2 rq => ⟨rfl, rfl, LI_act h (Gd_a7 hg) (Hj_a7) tp kt kr rq⟩⟩
theorem cs_stop {x : Int32} (h : LwI S μ ρ) : Cs2 Z jX11_stop jX12_stop [.int x] S μ ρ := by
  obtain ⟨u, z0, h⟩ := h
  have ht := h.1
  have hg := h.2.1
  have hk := h.2.2.2.2.1
  have h8 := LU_rg h
  refine f_X11_stop ?_
  dsimp only [F_X11_stop]
  refine ⟨ht.1.1, rfl, _, _, _, ht, hg, fun μ1 ρ1 tp kt kr => ⟨_, rfl, rfl, ?_⟩⟩
  have e37 := kt.1 2737 (by omega)
  have e38 := kt.1 2738 (by omega)
  have e39 := kt.1 2739 (by omega)
  refine f_X12_stop ?_
  dsimp only [F_X12_stop]
  rw [e37, e38, e39]
  exact ⟨rfl, RS_KR hk.1 kr, Gd_good hg, h8, fun μ2 rq => ⟨rfl, rfl, LI_act h (Gd_a8 hg) (Hj_a8) tp kt kr rq⟩⟩
theorem cs_start {x : Int32} (h : LwI S μ ρ) : Cs2 Z jX11_start jX12_start [.int x] S μ ρ := by
  obtain ⟨u, z0, h⟩ := h
  have ht := h.1
  have hg := h.2.1
  have hk := h.2.2.2.2.1
  have h8 := LU_rg h
  refine f_X11_start ?_
  dsimp only [F_X11_start]
  refine ⟨ht.1.1, rfl, _, _, _, ht, hg, fun μ1 ρ1 tp kt kr => ⟨_, rfl, rfl, ?_⟩⟩
  have e37 := kt.1 2737 (by omega)
  have e38 := kt.1 2738 (by omega)
  have e39 := kt.1 2739 (by omega)
  refine f_X12_start ?_
  dsimp only [F_X12_start]
  rw [e37, e38, e39]
  exact ⟨rfl, RS_KR hk.1 kr, Gd_good hg, h8, fun μ2 rq => ⟨rfl, rfl, LI_act h (Gd_a9 hg) (Hj_a9) tp kt kr rq⟩⟩
theorem cs_link {x y z : Int32} (h : LwI S μ ρ) : Cs2 Z jX11_link jX12_link [.int x, .int y, .int z] S μ ρ := by
  obtain ⟨u, z0, h⟩ := h
  have ht := h.1
  have hg := h.2.1
  have hk := h.2.2.2.2.1
  have h8 := LU_rg h
  refine f_X11_link ?_
  dsimp only [F_X11_link]
  refine ⟨ht.1.1, rfl, _, _, _, ht, hg, fun μ1 ρ1 tp kt kr => ⟨_, rfl, rfl, ?_⟩⟩
  have e37 := kt.1 2737 (by omega)
  have e38 := kt.1 2738 (by omega)
  have e39 := kt.1 2739 (by omega)
  refine f_X12_link ?_
  dsimp only [F_X12_link]
  rw [e37, e38, e39]
  exact ⟨rfl, RS_KR hk.1 kr, Gd_good hg, h8, fun μ2 rq => ⟨rfl, rfl, LI_act h (Gd_a10 hg) (Hj_a10) tp kt kr rq⟩⟩
theorem cs_come {x : Int32} (h : LwI S μ ρ) : Cs2 Z jX11_come jX12_come [.int x] S μ ρ := by
  obtain ⟨u, z0, h⟩ := h
  have ht := h.1
  have hg := h.2.1
  have hk := h.2.2.2.2.1
  have h8 := LU_rg h
  refine f_X11_come ?_
  dsimp only [F_X11_come]
  refine ⟨ht.1.1, rfl, _, _, _, ht, hg, fun μ1 ρ1 tp kt kr => ⟨_, rfl, rfl, ?_⟩⟩
  have e37 := kt.1 2737 (by omega)
  have e38 := kt.1 2738 (by omega)
  have e39 := kt.1 2739 (by omega)
  refine f_X12_come ?_
  dsimp only [F_X12_come]
  rw [e37, e38, e39]
  exact ⟨rfl, RS_KR hk.1 kr, Gd_good hg, h8, fun μ2 rq => ⟨rfl, rfl, LI_act h (Gd_a11 hg) (Hj_a11 (Gd_good hg)) tp kt kr rq⟩⟩
theorem cs_lose {x : Int32} (h : LwI S μ ρ) : Cs2 Z jX11_lose jX12_lose [.int x] S μ ρ := by
  obtain ⟨u, z0, h⟩ := h
  have ht := h.1
  have hg := h.2.1
  have hk := h.2.2.2.2.1
  have h8 := LU_rg h
  refine f_X11_lose ?_
  dsimp only [F_X11_lose]
  refine ⟨ht.1.1, rfl, _, _, _, ht, hg, fun μ1 ρ1 tp kt kr => ⟨_, rfl, rfl, ?_⟩⟩
  have e37 := kt.1 2737 (by omega)
  have e38 := kt.1 2738 (by omega)
  have e39 := kt.1 2739 (by omega)
  refine f_X12_lose ?_
  dsimp only [F_X12_lose]
  rw [e37, e38, e39]
  exact ⟨rfl, RS_KR hk.1 kr, Gd_good hg, h8, fun μ2 rq => ⟨rfl, rfl, LI_act h (Gd_a12 hg) (Hj_a12 (Gd_good hg)) tp kt kr rq⟩⟩
theorem cs_twice {x : Int32} (h : LwI S μ ρ) : Cs2 Z jX11_twice jX12_twice [.int x] S μ ρ := by
  obtain ⟨u, z0, h⟩ := h
  have ht := h.1
  have hg := h.2.1
  have hk := h.2.2.2.2.1
  have h8 := LU_rg h
  refine f_X11_twice ?_
  dsimp only [F_X11_twice]
  refine ⟨ht.1.1, rfl, _, _, _, ht, hg, fun μ1 ρ1 tp kt kr => ⟨_, rfl, rfl, ?_⟩⟩
  have e37 := kt.1 2737 (by omega)
  have e38 := kt.1 2738 (by omega)
  have e39 := kt.1 2739 (by omega)
  refine f_X12_twice ?_
  dsimp only [F_X12_twice]
  rw [e37, e38, e39]
  exact ⟨rfl, RS_KR hk.1 kr, Gd_good hg, h8, fun μ2 rq => ⟨rfl, rfl, LI_act h (Gd_a13 hg) (Hj_a13 (Gd_good hg)) tp kt kr rq⟩⟩
theorem cs_settle {x : Int32} (h : LwI S μ ρ) : Cs2 Z jX11_settle jX12_settle [.int x] S μ ρ := by
  obtain ⟨u, z0, h⟩ := h
  have ht := h.1
  have hg := h.2.1
  have hk := h.2.2.2.2.1
  have h8 := LU_rg h
  refine f_X11_settle ?_
  dsimp only [F_X11_settle]
  refine ⟨ht.1.1, rfl, _, _, _, ht, hg, fun μ1 ρ1 tp kt kr => ⟨_, rfl, rfl, ?_⟩⟩
  have e37 := kt.1 2737 (by omega)
  have e38 := kt.1 2738 (by omega)
  have e39 := kt.1 2739 (by omega)
  refine f_X12_settle ?_
  dsimp only [F_X12_settle]
  rw [e37, e38, e39]
  exact ⟨rfl, RS_KR hk.1 kr, Gd_good hg, h8, fun μ2 rq => ⟨rfl, rfl, LI_act h (Gd_a14 hg) (Hj_a14 (Gd_good hg)) tp kt kr rq⟩⟩
theorem cs_store {x y : Int32} (h : LwI S μ ρ) : Cs2 Z jX11_store jX12_store [.int x, .int y] S μ ρ := by
  obtain ⟨u, z0, h⟩ := h
  have ht := h.1
  have hg := h.2.1
  have hk := h.2.2.2.2.1
  refine f_X11_store ?_
  dsimp only [F_X11_store]
  refine ⟨ht.1.1, rfl, _, _, _, ht, hg, _, rfl, rfl, ?_⟩
  refine f_X12_store ?_
  dsimp only [F_X12_store]
  exact ⟨rfl, hk.1, Gd_good hg, fun μ2 rq => ⟨rfl, rfl, LI_ask h ht KT_rf KR_rf rq⟩⟩
theorem cs_cell {x y : Int32} (h : LwI S μ ρ) : Cs2 Z jX11_cell jX12_cell [.int x, .int y] S μ ρ := by
  obtain ⟨u, z0, h⟩ := h
  have ht := h.1
  have hg := h.2.1
  have hk := h.2.2.2.2.1
  refine f_X11_cell ?_
  dsimp only [F_X11_cell]
  refine ⟨ht.1.1, rfl, _, _, _, ht, hg, _, rfl, rfl, ?_⟩
  refine f_X12_cell ?_
  dsimp only [F_X12_cell]
  exact ⟨rfl, hk.1, Gd_good hg, fun μ2 rq => ⟨rfl, rfl, LI_ask h ht KT_rf KR_rf rq⟩⟩
theorem cs_entry {x y z : Int32} (h : LwI S μ ρ) : Cs2 Z jX11_entry jX12_entry [.int x, .int y, .int z] S μ ρ := by
  obtain ⟨u, z0, h⟩ := h
  have ht := h.1
  have hg := h.2.1
  have hk := h.2.2.2.2.1
  refine f_X11_entry ?_
  dsimp only [F_X11_entry]
  refine ⟨ht.1.1, rfl, _, _, _, ht, hg, _, rfl, rfl, ?_⟩
  refine f_X12_entry ?_
  dsimp only [F_X12_entry]
  exact ⟨rfl, hk.1, Gd_good hg, fun μ2 rq => ⟨rfl, rfl, LI_ask h ht KT_rf KR_rf rq⟩⟩
theorem cs_follows {x y z : Int32} (h : LwI S μ ρ) : Cs2 Z jX11_follows jX12_follows [.int x, .int y, .int z] S μ ρ := by
  obtain ⟨u, z0, h⟩ := h
  have ht := h.1
  have hg := h.2.1
  have hk := h.2.2.2.2.1
  refine f_X11_follows ?_
  dsimp only [F_X11_follows]
  refine ⟨ht.1.1, rfl, _, _, _, ht, hg, _, rfl, rfl, ?_⟩
  refine f_X12_follows ?_
  dsimp only [F_X12_follows]
  exact ⟨rfl, hk.1, Gd_good hg, fun μ2 rq => ⟨rfl, rfl, LI_ask h ht KT_rf KR_rf rq⟩⟩
theorem cs_message {x y : Int32} (h : LwI S μ ρ) : Cs2 Z jX11_message jX12_message [.int x, .int y] S μ ρ := by
  obtain ⟨u, z0, h⟩ := h
  have ht := h.1
  have hg := h.2.1
  have hk := h.2.2.2.2.1
  refine f_X11_message ?_
  dsimp only [F_X11_message]
  refine ⟨ht.1.1, rfl, _, _, _, ht, hg, _, rfl, rfl, ?_⟩
  refine f_X12_message ?_
  dsimp only [F_X12_message]
  exact ⟨rfl, hk.1, Gd_good hg, fun μ2 rq => ⟨rfl, rfl, LI_ask h ht KT_rf KR_rf rq⟩⟩
theorem cs_first {x y z : Int32} (h : LwI S μ ρ) : Cs2 Z jX11_first jX12_first [.int x, .int y, .int z] S μ ρ := by
  obtain ⟨u, z0, h⟩ := h
  have ht := h.1
  have hg := h.2.1
  have hk := h.2.2.2.2.1
  refine f_X11_first ?_
  dsimp only [F_X11_first]
  refine ⟨ht.1.1, rfl, _, _, _, ht, hg, _, rfl, rfl, ?_⟩
  refine f_X12_first ?_
  dsimp only [F_X12_first]
  exact ⟨rfl, hk.1, Gd_good hg, fun μ2 rq => ⟨rfl, rfl, LI_ask h ht KT_rf KR_rf rq⟩⟩
theorem cs_linked {x y : Int32} (h : LwI S μ ρ) : Cs2 Z jX11_linked jX12_linked [.int x, .int y] S μ ρ := by
  obtain ⟨u, z0, h⟩ := h
  have ht := h.1
  have hg := h.2.1
  have hk := h.2.2.2.2.1
  refine f_X11_linked ?_
  dsimp only [F_X11_linked]
  refine ⟨ht.1.1, rfl, _, _, _, ht, hg, _, rfl, rfl, ?_⟩
  refine f_X12_linked ?_
  dsimp only [F_X12_linked]
  exact ⟨rfl, hk.1, fun μ2 rq => ⟨rfl, rfl, LI_ask h ht KT_rf KR_rf rq⟩⟩
theorem cs_alike {x y : Int32} (h : LwI S μ ρ) : Cs2 Z jX11_alike jX12_alike [.int x, .int y] S μ ρ := by
  obtain ⟨u, z0, h⟩ := h
  have ht := h.1
  have hg := h.2.1
  have hk := h.2.2.2.2.1
  refine f_X11_alike ?_
  dsimp only [F_X11_alike]
  refine ⟨ht.1.1, rfl, _, _, _, ht, hg, _, rfl, rfl, ?_⟩
  refine f_X12_alike ?_
  dsimp only [F_X12_alike]
  exact ⟨rfl, hk.1, Gd_good hg, fun μ2 rq => ⟨rfl, rfl, LI_ask h ht KT_rf KR_rf rq⟩⟩
theorem cs_grants {x : Int32} (h : LwI S μ ρ) : Cs2 Z jX11_grants jX12_grants [.int x] S μ ρ := by
  obtain ⟨u, z0, h⟩ := h
  have ht := h.1
  have hg := h.2.1
  have hk := h.2.2.2.2.1
  refine f_X11_grants ?_
  dsimp only [F_X11_grants]
  refine ⟨ht.1.1, rfl, _, _, _, ht, hg, _, rfl, rfl, ?_⟩
  refine f_X12_grants ?_
  dsimp only [F_X12_grants]
  exact ⟨rfl, hk.1, Gd_good hg, fun μ2 rq => ⟨rfl, rfl, LI_ask h ht KT_rf KR_rf rq⟩⟩
theorem cs_electable {x : Int32} (h : LwI S μ ρ) : Cs2 Z jX11_electable jX12_electable [.int x] S μ ρ := by
  obtain ⟨u, z0, h⟩ := h
  have ht := h.1
  have hg := h.2.1
  have hk := h.2.2.2.2.1
  refine f_X11_electable ?_
  dsimp only [F_X11_electable]
  refine ⟨ht.1.1, rfl, _, _, _, ht, hg, _, rfl, rfl, ?_⟩
  refine f_X12_electable ?_
  dsimp only [F_X12_electable]
  exact ⟨rfl, hk.1, Gd_good hg, fun μ2 rq => ⟨rfl, rfl, LI_ask h ht KT_rf KR_rf rq⟩⟩
theorem cs_holders {x y : Int32} (h : LwI S μ ρ) : Cs2 Z jX11_holders jX12_holders [.int x, .int y] S μ ρ := by
  obtain ⟨u, z0, h⟩ := h
  have ht := h.1
  have hg := h.2.1
  have hk := h.2.2.2.2.1
  refine f_X11_holders ?_
  dsimp only [F_X11_holders]
  refine ⟨ht.1.1, rfl, _, _, _, ht, hg, _, rfl, rfl, ?_⟩
  refine f_X12_holders ?_
  dsimp only [F_X12_holders]
  exact ⟨rfl, hk.1, Gd_good hg, fun μ2 rq => ⟨rfl, rfl, LI_ask h ht KT_rf KR_rf rq⟩⟩
theorem cs_safe {x y : Int32} (h : LwI S μ ρ) : Cs2 Z jX11_safe jX12_safe [.int x, .int y] S μ ρ := by
  obtain ⟨u, z0, h⟩ := h
  have ht := h.1
  have hg := h.2.1
  have hk := h.2.2.2.2.1
  refine f_X11_safe ?_
  dsimp only [F_X11_safe]
  refine ⟨ht.1.1, rfl, _, _, _, ht, hg, _, rfl, rfl, ?_⟩
  refine f_X12_safe ?_
  dsimp only [F_X12_safe]
  exact ⟨rfl, hk.1, Gd_good hg, fun μ2 rq => ⟨rfl, rfl, LI_ask h ht KT_rf KR_rf rq⟩⟩
theorem cs_agreed {x y : Int32} (h : LwI S μ ρ) : Cs2 Z jX11_agreed jX12_agreed [.int x, .int y] S μ ρ := by
  obtain ⟨u, z0, h⟩ := h
  have ht := h.1
  have hg := h.2.1
  have hk := h.2.2.2.2.1
  refine f_X11_agreed ?_
  dsimp only [F_X11_agreed]
  refine ⟨ht.1.1, rfl, _, _, _, ht, hg, _, rfl, rfl, ?_⟩
  refine f_X12_agreed ?_
  dsimp only [F_X12_agreed]
  exact ⟨rfl, hk.1, fun μ2 rq => ⟨rfl, rfl, LI_ask h ht KT_rf KR_rf rq⟩⟩
theorem cs_leaders {x : Int32} (h : LwI S μ ρ) : Cs2 Z jX11_leaders jX12_leaders [.int x] S μ ρ := by
  obtain ⟨u, z0, h⟩ := h
  have ht := h.1
  have hg := h.2.1
  have hk := h.2.2.2.2.1
  refine f_X11_leaders ?_
  dsimp only [F_X11_leaders]
  refine ⟨ht.1.1, rfl, _, _, _, ht, hg, _, rfl, rfl, ?_⟩
  refine f_X12_leaders ?_
  dsimp only [F_X12_leaders]
  exact ⟨rfl, hk.1, fun μ2 rq => ⟨rfl, rfl, LI_ask h ht KT_rf KR_rf rq⟩⟩
theorem cs_leader (h : LwI S μ ρ) : Cs2 Z jX11_leader jX12_leader [] S μ ρ := by
  obtain ⟨u, z0, h⟩ := h
  have ht := h.1
  have hg := h.2.1
  have hk := h.2.2.2.2.1
  refine f_X11_leader ?_
  dsimp only [F_X11_leader]
  refine ⟨ht.1.1, rfl, _, _, _, ht, hg, _, rfl, rfl, ?_⟩
  refine f_X12_leader ?_
  dsimp only [F_X12_leader]
  exact ⟨rfl, hk.1, fun μ2 rq => ⟨rfl, rfl, LI_ask h ht KT_rf KR_rf rq⟩⟩
theorem cs_fragile (h : LwI S μ ρ) : Cs2 Z jX11_fragile jX12_fragile [] S μ ρ := by
  obtain ⟨u, z0, h⟩ := h
  have ht := h.1
  have hg := h.2.1
  have hk := h.2.2.2.2.1
  refine f_X11_fragile ?_
  dsimp only [F_X11_fragile]
  refine ⟨ht.1.1, rfl, _, _, _, ht, hg, _, rfl, rfl, ?_⟩
  refine f_X12_fragile ?_
  dsimp only [F_X12_fragile]
  exact ⟨rfl, hk.1, Gd_good hg, fun μ2 rq => ⟨rfl, rfl, LI_ask h ht KT_rf KR_rf rq⟩⟩
theorem cs_then {x y : Int32} (h : LwI S μ ρ) : Cs2 Z jX11_then jX12_then [.int x, .int y] S μ ρ := by
  obtain ⟨u, z0, h⟩ := h
  have ht := h.1
  have hg := h.2.1
  have hk := h.2.2.2.2.1
  refine f_X11_then ?_
  dsimp only [F_X11_then]
  refine ⟨ht.1.1, rfl, _, _, _, ht, hg, fun μ1 ρ1 tp kt kr => ⟨_, rfl, rfl, ?_⟩⟩
  have kt := KT_KP kt
  have kr := KR_KP kr
  have e37 := kt.1 2737 (by omega)
  have e38 := kt.1 2738 (by omega)
  have e39 := kt.1 2739 (by omega)
  refine f_X12_then ?_
  dsimp only [F_X12_then]
  rw [e38]
  refine ⟨rfl, RS_KR hk.1 kr, Gd_good hg, fun μ2 rq => ⟨rfl, rfl, LI_ask h tp kt kr ?_⟩⟩
  rw [e38]
  exact rq
theorem cs_rounds (h : LwI S μ ρ) : Cs2 Z jX11_rounds jX12_rounds [] S μ ρ := by
  obtain ⟨u, z0, h⟩ := h
  have ht := h.1
  have hg := h.2.1
  have hk := h.2.2.2.2.1
  refine f_X11_rounds ?_
  dsimp only [F_X11_rounds]
  refine ⟨ht.1.1, rfl, _, _, _, ht, hg, fun μ1 ρ1 tp kt kr => ⟨_, rfl, rfl, ?_⟩⟩
  have kt := KT_KP kt
  have kr := KR_KP kr
  have e37 := kt.1 2737 (by omega)
  have e38 := kt.1 2738 (by omega)
  have e39 := kt.1 2739 (by omega)
  refine f_X12_rounds ?_
  dsimp only [F_X12_rounds]
  rw [e38]
  refine ⟨rfl, RS_KR hk.1 kr, Gd_good hg, fun μ2 rq => ⟨rfl, rfl, LI_ask h tp kt kr ?_⟩⟩
  rw [e38]
  exact rq
theorem cs_storm {x : Int32} (h : LwI S μ ρ) : Cs2 Z jX11_storm jX12_storm [.int x] S μ ρ := by
  obtain ⟨u, z0, h⟩ := h
  have ht := h.1
  have hg := h.2.1
  have hk := h.2.2.2.2.1
  refine f_X11_storm ?_
  dsimp only [F_X11_storm]
  refine ⟨ht.1.1, rfl, _, _, _, ht, hg, fun μ1 ρ1 tp kt kr => ⟨_, rfl, rfl, ?_⟩⟩
  have kt := KT_KP kt
  have kr := KR_KP kr
  have e37 := kt.1 2737 (by omega)
  have e38 := kt.1 2738 (by omega)
  have e39 := kt.1 2739 (by omega)
  refine f_X12_storm ?_
  dsimp only [F_X12_storm]
  rw [e38]
  refine ⟨rfl, RS_KR hk.1 kr, Gd_good hg, fun μ2 rq => ⟨rfl, rfl, LI_ask h tp kt kr ?_⟩⟩
  rw [e38]
  exact rq
theorem cs_wins {x : Int32} (h : LwI S μ ρ) : Cs2 Z jX11_wins jX12_wins [.int x] S μ ρ := by
  obtain ⟨u, z0, h⟩ := h
  have ht := h.1
  have hg := h.2.1
  have hk := h.2.2.2.2.1
  refine f_X11_wins ?_
  dsimp only [F_X11_wins]
  refine ⟨ht.1.1, rfl, _, _, _, ht, hg, fun μ1 ρ1 tp kt kr => ⟨_, rfl, rfl, ?_⟩⟩
  have kt := KT_KP kt
  have kr := KR_KP kr
  have e37 := kt.1 2737 (by omega)
  have e38 := kt.1 2738 (by omega)
  have e39 := kt.1 2739 (by omega)
  refine f_X12_wins ?_
  dsimp only [F_X12_wins]
  rw [e38]
  refine ⟨rfl, RS_KR hk.1 kr, Gd_good hg, fun μ2 rq => ⟨rfl, rfl, LI_ask h tp kt kr ?_⟩⟩
  rw [e38]
  exact rq
theorem cs_could {x y : Int32} (h : LwI S μ ρ) : Cs2 Z jX11_could jX12_could [.int x, .int y] S μ ρ := by
  obtain ⟨u, z0, h⟩ := h
  have ht := h.1
  have hg := h.2.1
  have hk := h.2.2.2.2.1
  refine f_X11_could ?_
  dsimp only [F_X11_could]
  refine ⟨ht.1.1, rfl, _, _, _, ht, hg, fun μ1 ρ1 tp kt kr => ⟨_, rfl, rfl, ?_⟩⟩
  have kt := kt
  have kr := kr
  have e37 := kt.1 2737 (by omega)
  have e38 := kt.1 2738 (by omega)
  have e39 := kt.1 2739 (by omega)
  refine f_X12_could ?_
  dsimp only [F_X12_could]
  rw [e38]
  refine ⟨rfl, RS_KR hk.1 kr, Gd_good hg, fun μ2 rq => ⟨rfl, rfl, LI_ask h tp kt kr ?_⟩⟩
  rw [e38]
  exact rq
theorem cs_count {x : Int32} (h : LwI S μ ρ) : Cs2 Z jX11_count jX12_count [.int x] S μ ρ := by
  obtain ⟨u, z0, h⟩ := h
  have ht := h.1
  have hg := h.2.1
  have hk := h.2.2.2.2.1
  have h6 := h.2.2.2.1
  have hz := h.2.2.2.2.2.2.1
  refine f_X11_count ?_
  dsimp only [F_X11_count]
  refine ⟨ht.1.1, rfl, _, _, _, ht, hg, hk.2.1.1, _, rfl, rfl, ?_⟩
  refine f_X12_count ?_
  dsimp only [F_X12_count]
  rw [h6, hz.1, hz.2.1]
  refine ⟨rfl, hk.1, fun μ2 rq => ⟨rfl, rfl, LI_ask h ht KT_rf KR_rf ?_⟩⟩
  rw [h6]
  exact rq
theorem cs_fault {x : Int32} (h : LwI S μ ρ) : Cs2 Z jX11_fault jX12_fault [.int x] S μ ρ := by
  obtain ⟨u, z0, h⟩ := h
  have ht := h.1
  have hk := h.2.2.2.2.1
  have hf := h.2.2.2.2.2.2.2.1
  refine f_X11_fault ?_
  dsimp only [F_X11_fault]
  refine ⟨ht.1.1, rfl, ht.1.2.1.2.2.2.2.1, hk.2.1.1, _, rfl, rfl, ?_⟩
  refine f_X12_fault ?_
  dsimp only [F_X12_fault]
  rw [hf.1, hf.2.1]
  exact ⟨rfl, hk.1, fun μ2 rq => ⟨rfl, rfl, LI_ask h ht KT_rf KR_rf rq⟩⟩
theorem cs_halted {x : Int32} (h : LwI S μ ρ) : Cs2 Z jX11_halted jX12_halted [.int x] S μ ρ := by
  obtain ⟨u, z0, h⟩ := h
  have ht := h.1
  have hk := h.2.2.2.2.1
  have hf := h.2.2.2.2.2.2.2.1
  refine f_X11_halted ?_
  dsimp only [F_X11_halted]
  refine ⟨ht.1.1, rfl, _, rfl, rfl, ?_⟩
  refine f_X12_halted ?_
  dsimp only [F_X12_halted]
  rw [hf.2.2.1, hf.2.2.2]
  exact ⟨rfl, hk.1, fun μ2 rq => ⟨rfl, rfl, LI_ask h ht KT_rf KR_rf rq⟩⟩
theorem cs_undo {x : Int32} (h : LwI S μ ρ) : Cs2 Z jX11_undo jX12_undo [.int x] S μ ρ := by
  obtain ⟨u, z0, h⟩ := h
  have ht := h.1
  have hk := h.2.2.2.2.1
  have h6 := h.2.2.2.1
  have h8 := LU_rg h
  have hu := LwU_8 h
  have un : uNo x (μ 2737 6) ↔ ¬ (1 ≤ x.toInt ∧ x.toInt ≤ u) := by
    unfold uNo
    rw [h6, Int32.le_iff_toInt_le, nI_toInt (by omega)]
    show ¬ ((1 ≤ x.toInt ∧ x.toInt ≤ 8) ∧ _) ↔ _
    omega
  refine f_X11_undo ?_
  dsimp only [F_X11_undo]
  refine ⟨ht.1.1, rfl, _, _, _, ht, fun c => ⟨_, rfl, rfl, ?_⟩, fun m em m1 m2 μ1 tp kt => ⟨_, rfl, rfl, ?_⟩⟩
  · refine f_X12_undo ?_
    dsimp only [F_X12_undo]
    exact ⟨rfl, hk.1, h8, fun _ μ2 rq => ⟨rfl, rfl, LI_ask h ht KT_rf KR_rf rq⟩, fun q => absurd (un.mpr c) q⟩
  · have e37 := kt.1 2737 (by omega)
    have e38 := kt.1 2738 (by omega)
    have e39 := kt.1 2739 (by omega)
    refine f_X12_undo ?_
    dsimp only [F_X12_undo]
    rw [e37, e38, e39]
    refine ⟨rfl, hk.1, h8, fun q => absurd (un.mp q) ?_, fun q μ2 rq => ?_⟩
    · rw [em, nI_toInt (by omega)]
      omega
    · rw [h6, em, pk_sub m2] at rq ⊢
      rw [nI_clamp (by omega)] at rq
      exact ⟨rfl, rfl, LI_undo h m1 m2 tp kt rq⟩
theorem cs_image {x : Int32} (h : LwI S μ ρ) : Cs2 Z jX11_image jX12_image [.int x] S μ ρ := by
  obtain ⟨u, z0, h⟩ := h
  have ht := h.1
  have hk := h.2.2.2.2.1
  refine f_X11_image ?_
  dsimp only [F_X11_image]
  refine ⟨ht.1.1, rfl, _, _, _, ht, fun c => ⟨_, rfl, rfl, ?_⟩, fun m em hm μ1 tp r e8 k1 k2 => ⟨_, rfl, rfl, ?_⟩⟩
  · refine f_X12_image ?_
    dsimp only [F_X12_image]
    exact ⟨rfl, hk.1, fun _ μ2 rq => ⟨rfl, rfl, LI_ask h ht KT_rf KR_rf rq⟩, fun q => absurd q c⟩
  · have e37 := k2 2737 (by omega) (by omega)
    have e38 := k2 2738 (by omega) (by omega)
    have e39 := k2 2739 (by omega) (by omega)
    refine f_X12_image ?_
    dsimp only [F_X12_image]
    rw [e37, e38, e39]
    have hx : rgd x 0 1 := by
      show 0 ≤ x.toInt ∧ x.toInt ≤ 1
      rw [em, nI_toInt (by omega)]
      omega
    refine ⟨rfl, hk.1, fun q => absurd hx q, fun _ μ2 rq => ⟨rfl, rfl, ?_⟩⟩
    rw [em, nI_clamp (by omega)] at rq
    exact LI_image h hm tp r e8 k1 k2 rq
theorem cs_restore {x : Int32} (h : LwI S μ ρ) : Cs2 Z jX11_restore jX12_restore [.int x] S μ ρ := by
  obtain ⟨u, z0, h⟩ := h
  have ht := h.1
  have hk := h.2.2.2.2.1
  have hi := h.2.2.2.2.2.1
  have hx : ∀ m : Nat, x = nI m → m < 2 → rgd x 0 1 := fun m em hm => by
    show 0 ≤ x.toInt ∧ x.toInt ≤ 1
    rw [em, nI_toInt (by omega)]
    omega
  refine f_X11_restore ?_
  dsimp only [F_X11_restore]
  refine ⟨ht.1.1, rfl, _, _, _, ht, fun c => ⟨_, rfl, rfl, ?_⟩, fun m em hm => ⟨fun c => ⟨_, rfl, rfl, ?_⟩, fun c => ?_⟩⟩
  · refine f_X12_restore ?_
    dsimp only [F_X12_restore]
    exact ⟨rfl, hk.1, fun _ μ2 rq => ⟨rfl, rfl, LI_ask h ht KT_rf KR_rf rq⟩, fun q => absurd q c, fun q => absurd q c⟩
  · have e0 : μ 2743 m = 0 := by
      rcases hi m hm with ⟨a, -⟩ | ⟨-, b, -⟩
      · exact a
      · exact absurd b c
    refine f_X12_restore ?_
    dsimp only [F_X12_restore]
    rw [em, nI_clamp (by omega)]
    have q := hx m em hm
    rw [em] at q
    exact ⟨rfl, hk.1, fun p => absurd q p, fun _ _ μ2 rq => ⟨rfl, rfl, LI_ask h ht KT_rf KR_rf rq⟩, fun _ p => absurd e0 p⟩
  · obtain ⟨e0, r, g⟩ : ¬ μ 2743 m = 0 ∧ RR (DrR (μ 2738) (m + 1)) (2397 + 170 * m) S μ ρ ∧ Gd (DrR (μ 2738) (m + 1)) := by
      rcases hi m hm with ⟨-, b⟩ | ⟨a, -, b, d⟩
      · exact absurd c b
      · exact ⟨a, b, d⟩
    refine ⟨_, r, fun μ1 tp kt => ⟨_, rfl, rfl, ?_⟩⟩
    have e37 := kt.1 2737 (by omega)
    have e38 := kt.1 2738 (by omega)
    have e39 := kt.1 2739 (by omega)
    have e43 := kt.1 2743 (by omega)
    refine f_X12_restore ?_
    dsimp only [F_X12_restore]
    rw [e38, e39, e43, em, nI_clamp (by omega)]
    have q := hx m em hm
    rw [em] at q
    exact ⟨rfl, hk.1, fun p => absurd q p, fun _ p => absurd p e0, fun _ _ μ2 rq => ⟨rfl, rfl, LI_restore h hm g tp kt rq⟩⟩
theorem cs_feed {x y z w v : Int32} (h : LwI S μ ρ) : Cs2 Z jX11_feed jX12_feed [.int x, .int y, .int z, .int w, .int v] S μ ρ := by
  obtain ⟨u, z0, h⟩ := h
  have ht := h.1
  have hk := h.2.2.2.2.1
  have hz := h.2.2.2.2.2.2.1
  have e14 := hz.1
  have hz3 := hz.2.2.1
  refine f_X11_feed ?_
  dsimp only [F_X11_feed]
  refine ⟨ht.1.1, rfl, ht.1.2.1.2.2.2.2.1, hk.2.1, z0, hz.2.1, hz3, fun c => ⟨_, rfl, rfl, ?_⟩, fun c => ⟨_, rfl, rfl, ?_⟩⟩
  · refine f_X12_feed ?_
    dsimp only [F_X12_feed]
    rw [e14, nI_toInt (by omega)]
    refine ⟨rfl, hk.1, (rg_nI (by omega)).mpr (by omega), fun _ => ⟨rfl, rfl, LI_0 h⟩, fun q => by omega⟩
  · have f37 : fdM μ z0 x y z w v 2737 = μ 2737 := fdM_ne (by omega) (by omega)
    have f45 : fdM μ z0 x y z w v 2745 = μ 2745 := fdM_ne (by omega) (by omega)
    refine f_X12_feed ?_
    dsimp only [F_X12_feed]
    rw [f37, f45, e14, nI_toInt (by omega), nI_clamp (by omega)]
    have e20 : nI z0 + 20 = nI (z0 + 20) := by rw [show (20 : Int32) = nI 20 from rfl, nI_add]
    rw [e20]
    refine ⟨rfl, hk.1, (rg_nI (by omega)).mpr (by omega), fun q => by omega, fun _ => ⟨rfl, rfl, LI_feed (a := x) (b := y) (c := z) (d := w) (e := v) h c (fun y a b => ?_) ?_ ?_ (fun f a b => ?_)⟩⟩
    · rw [upF_ne a, upF_ne b]
    · rw [upF_ne (by omega), upF_same]
    · rw [upF_same, up_at]
    · rw [upF_same, up_ne b, up_ne a]
set_option maxHeartbeats 1000000 in
theorem cs_script {x : Int32} (hZ : ZX Z) (h : LwI S μ ρ) : Cs2 Z jX11_script jX12_script [.int x] S μ ρ := by
  obtain ⟨u, z0, h⟩ := h
  have ht := h.1
  have hg := h.2.1
  have hk := h.2.2.2.2.1
  have h8 := LU_rg h
  have hw := h.2.2.2.2.2.2.2.2
  obtain ⟨e14, e2, hz3, hb, hby⟩ := h.2.2.2.2.2.2.1
  have r14 : rg (μ 2737 14) 0 300 := by rw [e14]; exact (rg_nI (by omega)).mpr (by omega)
  have t14 : (μ 2737 14).toInt = z0 := by rw [e14, nI_toInt (by omega)]
  refine f_X11_script (d := 90) (T := μ 2745) (sz := z0) (A := μ 2738) (u := u) (D := DrR (μ 2739)) (tl := (pActs (μ 2745) x.toNatClampNeg 0 3 ((0, 0, -1), (0, μ 2737 21, μ 2737 19, μ 2737 20, μ 2747, μ 2738))).2.2.2.2.2.1) hZ hk.2.2 hk.2.1 ht hg e2 hz3 hb hby (fun c => ⟨_, rfl, rfl, ?_⟩) (fun n hn hnz B hB => ⟨fun cw μ1 tc k1 k2 k3 k4 k5 => ⟨_, rfl, rfl, ?_⟩, fun cw Y hY yw μ1 ρ1 hs => ⟨_, rfl, rfl, ?_⟩⟩)
  · refine f_X12_script ?_
    dsimp only [F_X12_script]
    refine ⟨rfl, hk.1, Gd_good hg, h8, r14, hw, fun _ => ⟨rfl, rfl, LI_0 h⟩, fun q => absurd q ?_⟩
    rw [t14]
    exact c
  · have e37 := k1 2737 (by omega)
    have e38 := k1 2738 (by omega)
    have e39 := k1 2739 (by omega)
    have e45 := k1 2745 (by omega)
    have e46 := k1 2746 (by omega)
    have e47 := k1 2747 (by omega)
    have hx : 0 ≤ x.toInt ∧ x.toInt ≤ (μ 2737 14).toInt := by
      rw [t14, hn, nI_toInt (by omega)]
      omega
    have xn : x.toNatClampNeg = n := by rw [hn, nI_clamp (by omega)]
    have we : sWr n (pActs (μ 2745) n 0 3 ((0, 0, -1), (0, μ 2737 21, μ 2737 19, μ 2737 20, μ 2747, μ 2738))) = cWr n B := by
      rw [← hB]
      exact sw_eq rfl
    have ue := (pActs_0 (T := μ 2745) (n := n) 3 (0, 0, -1) (0, μ 2737 21, μ 2737 19, μ 2737 20, μ 2747, μ 2738) (μ 858) 0 rfl).2
    refine f_X12_script ?_
    dsimp only [F_X12_script]
    rw [e37, e38, e39, e45, e46, e47, xn]
    refine ⟨rfl, hk.1, Gd_good hg, h8, r14, hw, fun q => absurd hx q, fun _ X hX => ?_⟩
    have hX2 : X = pActs (μ 2745) n 0 3 ((0, 0, -1), (0, μ 2737 21, μ 2737 19, μ 2737 20, μ 2747, μ 2738)) := hX
    rw [← hX2] at we ue
    have u3 : X.2.2.2.1 = μ 2737 19 := congrArg (fun e : Ec => e.2.2.1) ue
    have u4 : X.2.2.2.2.1 = μ 2737 20 := congrArg (fun e : Ec => e.2.2.2.1) ue
    have u5 : X.2.2.2.2.2.2 = μ 2738 := congrArg (fun e : Ec => e.2.2.2.2) ue
    rw [we, u5]
    refine ⟨fun _ μ2 sq => ⟨rfl, rfl, LI_bad h tc k1 k2 k3 k4 k5 u3 u4 sq⟩, fun q => absurd q cw⟩
  · have e38 := hs.2.1.1 2738 (by omega)
    have e37 := hs.2.1.1 2737 (by omega)
    have e39 := hs.2.1.1 2739 (by omega)
    have e45 := hs.2.1.1 2745 (by omega)
    have e46 := hs.2.1.1 2746 (by omega)
    have e47 := hs.2.1.1 2747 (by omega)
    have hx : 0 ≤ x.toInt ∧ x.toInt ≤ (μ 2737 14).toInt := by
      rw [t14, hn, nI_toInt (by omega)]
      omega
    have xn : x.toNatClampNeg = n := by rw [hn, nI_clamp (by omega)]
    have we : sWr n (pActs (μ 2745) n 0 3 ((0, 0, -1), (0, μ 2737 21, μ 2737 19, μ 2737 20, μ 2747, μ 2738))) = cWr n B := by
      rw [← hB]
      exact sw_eq rfl
    have wo : cWr n B = (0, -1) := by
      rw [← hB]
      rw [← hB] at cw
      exact sw_ok cw
    have ue := (pActs_0 (T := μ 2745) (n := n) 3 (0, 0, -1) (0, μ 2737 21, μ 2737 19, μ 2737 20, μ 2747, μ 2738) (μ 858) 0 rfl).2
    rw [xn] at hY
    refine f_X12_script ?_
    dsimp only [F_X12_script]
    rw [e37, e38, e39, e45, e46, e47, xn]
    refine ⟨rfl, RS_KR hk.1 hs.2.2.2.2, Gd_good hg, h8, r14, hw, fun q => absurd hx q, fun _ X hX => ?_⟩
    have hX2 : X = pActs (μ 2745) n 0 3 ((0, 0, -1), (0, μ 2737 21, μ 2737 19, μ 2737 20, μ 2747, μ 2738)) := hX
    rw [← hX2] at we ue hY
    have u0 : X.2.1 = 0 := congrArg (fun e : Ec => e.1) ue
    have u5 : X.2.2.2.2.2.2 = μ 2738 := congrArg (fun e : Ec => e.2.2.2.2) ue
    have eD : sDo (μ 2745) n X = Y := by
      unfold sDo
      rw [we, wo, u0, ← hY, ← u5]
    have hI : ScI (μ 2738) Y.2 := by rw [← hY]; exact ScI_end hg
    have y1 : Y.1.2.1 = 0 := by rw [yw]
    have y2 : Y.1.2.2 = -1 := by rw [yw]
    obtain ⟨dn, ed, d400, -⟩ := hI.1
    rw [we, u5, eD]
    refine ⟨fun q => absurd cw q, fun _ Y' hY' => ?_⟩
    subst hY'
    rw [y1, y2]
    refine ⟨fun c0 μ2 sq => ⟨?_, rfl, LI_done h hs hI (Or.inl ⟨c0, rfl, rfl⟩) sq⟩, fun c0 μ2 sq => ⟨rfl, rfl, LI_done h hs hI (Or.inr ⟨c0, rfl, rfl⟩) ?_⟩⟩
    · rw [c0]
    · have nn : ¬ Y'.2.2.1 < 0 := by
        have ed2 : Y'.2.2.1 = nI dn := ed
        rw [ed2]
        exact nI_pos (by omega)
      rw [if_neg nn, if_neg nn] at sq
      exact sq
end Cases
