abbrev c9_X12_glowOf : aCt := (226, [.inr (some [221]), .inl (0, 21), .inl (0, 8)], some (.inl (-2147483648, 2147483647)))
abbrev c9_X12_leads : aCt := (229, [.inr (some [221]), .inl (0, 63), .inl (0, 1)], none)
abbrev c9_X12_ticks : aCt := (235, [.inr (some [221]), .inl (0, 21), .inl (-2147483648, 2147483647)], some (.inl (-2147483648, 2147483647)))
abbrev c9_X12_bits : aCt := (220, [.inl (-2147483648, 2147483647)], some (.inl (-2147483648, 2147483647)))
abbrev c9_X12_writesDown : aCt := (232, [.inr (some [221]), .inl (0, 21), .inl (0, 8), .inl (0, 1)], none)
abbrev c9_X12_keeps : aCt := (213, [.inr (some [221])], none)
/-- what the model's calls rest on -/
def aH9 (E : zM → Prop) : Prop := aEs (aΘ0 E) ∧ aQe (aΘ0 E) 223 221 13 (0, 7) ∧ aQe (aΘ0 E) 224 221 13 (0, 7) ∧ aCv (aΘ0 E) 6 c9_X12_glowOf ∧ aCv (aΘ0 E) 4 c9_X12_leads ∧ aCv (aΘ0 E) 10 c9_X12_ticks ∧ aCv (aΘ0 E) 6 c9_X12_bits ∧ aCv (aΘ0 E) 1 c9_X12_writesDown ∧ aCv (aΘ0 E) 2 c9_X12_keeps
