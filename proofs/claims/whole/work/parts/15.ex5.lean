/-! BaggageHandling.mapByte(I)I -/
noncomputable def tX10_mapByte_51 (s0 : Int32) (μ : zM) : Option (Option zV × zM) := fX10_mapByte_51 [none, none] [.inl s0] μ
noncomputable def tX10_mapByte_0 (a1 : Int32) (μ : zM) : Option (Option zV × zM) := fX10_mapByte_0 [some (.inr (.inr (10, 0))), some (.inl a1)] [] μ
theorem eX10_mapByte_51 (s0 : Int32) (μ : zM) : tX10_mapByte_51 s0 μ = some (some (.inl s0), μ) := (zs3 _ _ _ _).trans (rfl)
theorem eX10_mapByte_0 (a1 : Int32) (μ : zM) : tX10_mapByte_0 a1 μ = zif (a1 < 0) (some (some (.inl (-1)), μ)) (zif (μ.2.1 10 0 6 < 2) (zif (μ.1 5 (μ.2.1 10 0 6) 0 < a1) (some (some (.inl (-2)), μ)) (zif (μ.2.1 10 0 6 < 2) (zif (a1 = μ.1 5 (μ.2.1 10 0 6) 0) (tX10_mapByte_51 10 μ) (zI (tX9_slotAt_0 0 a1 μ) fun v4 μ3 => zI (tX9_signOf_0 0 v4 μ3) fun v6 μ5 => tX10_mapByte_51 v6 μ5)) none)) none) := (zs3 _ _ _ _).trans (rfl)
theorem uX10_mapByte (a1 : Int32) (μ : zM) : gX10_mapByte [.inr (.inr (10, 0)), .inl a1] μ = tX10_mapByte_0 a1 μ := rfl
/-! BaggageHandling.setupLength()I -/
noncomputable def tX10_setupLength_0 (μ : zM) : Option (Option zV × zM) := fX10_setupLength_0 [some (.inr (.inr (10, 0)))] [] μ
theorem eX10_setupLength_0 (μ : zM) : tX10_setupLength_0 μ = some (some (.inl (μ.1 8 0 1)), μ) := (zs3 _ _ _ _).trans (rfl)
theorem uX10_setupLength (μ : zM) : gX10_setupLength [.inr (.inr (10, 0))] μ = tX10_setupLength_0 μ := rfl
/-! BaggageHandling.setupByte(I)I -/
noncomputable def tX10_setupByte_31 (s0 : Int32) (μ : zM) : Option (Option zV × zM) := fX10_setupByte_31 [none, none] [.inl s0] μ
noncomputable def tX10_setupByte_0 (a1 : Int32) (μ : zM) : Option (Option zV × zM) := fX10_setupByte_0 [some (.inr (.inr (10, 0))), some (.inl a1)] [] μ
theorem eX10_setupByte_31 (s0 : Int32) (μ : zM) : tX10_setupByte_31 s0 μ = some (some (.inl s0), μ) := (zs3 _ _ _ _).trans (rfl)
theorem eX10_setupByte_0 (a1 : Int32) (μ : zM) : tX10_setupByte_0 a1 μ = zif (a1 < 0) (some (some (.inl (-1)), μ)) (zif (a1 < μ.1 8 0 1) ((qB μ (56, 0) a1).bind fun v1 => tX10_setupByte_31 v1 μ) (tX10_setupByte_31 (-2) μ)) := (zs3 _ _ _ _).trans (rfl)
theorem uX10_setupByte (a1 : Int32) (μ : zM) : gX10_setupByte [.inr (.inr (10, 0)), .inl a1] μ = tX10_setupByte_0 a1 μ := rfl
/-! BaggageHandling.tapeLength()I -/
noncomputable def tX10_tapeLength_0 (μ : zM) : Option (Option zV × zM) := fX10_tapeLength_0 [some (.inr (.inr (10, 0)))] [] μ
theorem eX10_tapeLength_0 (μ : zM) : tX10_tapeLength_0 μ = some (some (.inl (μ.1 7 0 1)), μ) := (zs3 _ _ _ _).trans (rfl)
theorem uX10_tapeLength (μ : zM) : gX10_tapeLength [.inr (.inr (10, 0))] μ = tX10_tapeLength_0 μ := rfl
