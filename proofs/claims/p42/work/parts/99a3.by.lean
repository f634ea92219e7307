theorem lw_byC : ∀ j : Fin 49, lw_by (j.val + 98) := by decide +kernel
