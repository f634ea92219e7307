theorem lw_byB : ∀ j : Fin 49, lw_by (j.val + 49) := by decide +kernel
