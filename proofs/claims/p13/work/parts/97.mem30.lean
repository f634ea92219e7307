theorem cuAll {l : Launch} {D : va_G} {c : Nat → ClassId} {H0 : Heap} {sa : Nat × Nat × (Nat → Int32)} : cuP l D c H0 sa := fun _ _ _ hw hT h hl => c_X4_countUp hw hT h hl h.1
