set_option maxRecDepth 100000 in
theorem xo_1 : ∀ w ∈ Bundle.ownAtoms0 "MuseumHouse" 293 "java/util/NoSuchElementException" xNs, w ∈ xTw ∨ w ∈ tG := by decide +kernel
set_option maxRecDepth 100000 in
theorem xo_2 : ∀ w ∈ Bundle.ownAtoms0 "MuseumHouse" 299 "java/lang/IllegalStateException" xNs, w ∈ xTw ∨ w ∈ tG := by decide +kernel
set_option maxRecDepth 100000 in
theorem xo_3 : ∀ w ∈ Bundle.ownAtoms0 "MuseumHouse" 302 "java/lang/IllegalArgumentException" xNs, w ∈ xTw ∨ w ∈ tG := by decide +kernel
