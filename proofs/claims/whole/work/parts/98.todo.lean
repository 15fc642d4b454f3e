theorem runs_law : RunsLaw := sorry
