/-! ===== p28: what a run's state is: the class has it ===== -/
def IA (a : AS) : Prop := ∃ V, RepA V a
theorem IA.pm {a : AS} (h : IA a) : PM a.1 := by
  obtain ⟨V, h⟩ := h
  exact h.1.1
theorem IA.len {a : AS} (h : IA a) : a.2.1.length ≤ 4 := by
  obtain ⟨V, h⟩ := h
  exact h.2.1.1
theorem IA.hist {a : AS} (h : IA a) {M : GM} (hm : M ∈ a.2.1) : PM M := by
  obtain ⟨V, h⟩ := h
  obtain ⟨i, hi⟩ := List.getElem?_of_mem hm
  exact (h.2.1.2.2 i M hi).1
theorem IA.kept {a : AS} (h : IA a) {M : GM} (e : a.2.2.1 = some M) : PM M := by
  obtain ⟨V, h⟩ := h
  rcases h.2.2.1 with ⟨_, q⟩ | ⟨_, N, q, pn, _⟩
  · rw [q] at e; cases e
  · rw [q] at e; cases e; exact pn
theorem IA.pad {a : AS} (h : IA a) : a.2.2.2.1.1 ≤ 60 := by
  obtain ⟨V, h⟩ := h
  exact h.2.2.2.1.2.1
theorem IA.wf {a : AS} (h : IA a) : WF a.1 := h.pm.1.1
theorem IA.n1 {a : AS} (h : IA a) : mN a.1 ≤ 121 := h.wf.n1
theorem IA.n0 {a : AS} (h : IA a) : 0 < mN a.1 := h.pm.1.2.1
theorem IA.go {a : AS} (h : IA a) (x : Int32) : IA (chA a (goA a.1 x)).2 := by
  obtain ⟨V, h⟩ := h
  obtain ⟨_, _, _, h1⟩ := k_go h x
  exact ⟨_, h1⟩
theorem IA.rain {a : AS} (h : IA a) (x : Int32) : IA (chA a (rainA a.1 x)).2 := by
  obtain ⟨V, h⟩ := h
  obtain ⟨_, _, _, h1⟩ := k_rain h x
  exact ⟨_, h1⟩
theorem IA.breakOff {a : AS} (h : IA a) (x : Int32) : IA (chA a (brkA a.1 x)).2 := by
  obtain ⟨V, h⟩ := h
  obtain ⟨_, _, _, h1⟩ := k_breakOff h x
  exact ⟨_, h1⟩
theorem IA.wash {a : AS} (h : IA a) : IA (chA a (wshA a.1)).2 := by
  obtain ⟨V, h⟩ := h
  obtain ⟨_, _, _, h1⟩ := k_wash h
  exact ⟨_, h1⟩
theorem IA.set {a : AS} (h : IA a) (x y : Int32) : IA (chA a (setA a.1 x y)).2 := by
  obtain ⟨V, h⟩ := h
  obtain ⟨_, _, _, h1⟩ := k_set h x y
  exact ⟨_, h1⟩
theorem IA.lot {a : AS} (h : IA a) (x : Int32) : IA (chA a (lotA a.1 x)).2 := by
  obtain ⟨V, h⟩ := h
  obtain ⟨_, _, _, h1⟩ := k_lot h x
  exact ⟨_, h1⟩
theorem IA.begin {a : AS} (h : IA a) (x : Int32) : IA (chA a (begA a.1 x)).2 := by
  obtain ⟨V, h⟩ := h
  obtain ⟨_, _, _, h1⟩ := k_begin h x
  exact ⟨_, h1⟩
theorem IA.undo {a : AS} (h : IA a) : IA (undA a).2 := by
  obtain ⟨V, h⟩ := h
  obtain ⟨_, _, _, h1⟩ := k_undo h
  exact ⟨_, h1⟩
theorem IA.save {a : AS} (h : IA a) : IA (savA a).2 := by
  obtain ⟨V, h⟩ := h
  obtain ⟨_, _, _, h1⟩ := k_save h
  exact ⟨_, h1⟩
theorem IA.restore {a : AS} (h : IA a) : IA (rstA a).2 := by
  obtain ⟨V, h⟩ := h
  obtain ⟨_, _, _, h1⟩ := k_restore h
  exact ⟨_, h1⟩
theorem IA.append {a : AS} (h : IA a) (x : Int32) : IA (padA a (appA a.2.2.2.1 x)).2 := by
  obtain ⟨V, h⟩ := h
  obtain ⟨_, _, _, h1⟩ := k_append h x
  exact ⟨_, h1⟩
theorem IA.clear {a : AS} (h : IA a) : IA (padA a (clrA a.2.2.2.1)).2 := by
  obtain ⟨V, h⟩ := h
  obtain ⟨_, _, _, h1⟩ := k_clear h
  exact ⟨_, h1⟩
