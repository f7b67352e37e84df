/-! the table of instructions serves the checker -/
theorem jd_ok : ai_dok jd := fun _ _ hq _ _ _ h => jd_ok0 hq h
