def fL_law_j1078 (η : xEnv) (v0 : UInt32) (v1 : Nat) (v2 : Nat) (v3 : Int32) (h : Hp) : Option ((Int32 × Hp) ⊕ ((Hp) ⊕ (Hp) ⊕ (Hp) ⊕ (Hp) ⊕ (Hp) ⊕ (Hp) ⊕ (Hp) ⊕ (Hp) ⊕ (Hp) ⊕ (Hp) ⊕ (Hp) ⊕ (Hp) ⊕ (Hp) ⊕ (Hp) ⊕ (Hp) ⊕ (Hp) ⊕ (Hp) ⊕ (Hp) ⊕ (Hp) ⊕ (Hp) ⊕ (Hp) ⊕ (Hp) ⊕ (Hp) ⊕ (Hp) ⊕ (Hp) ⊕ (Hp) ⊕ (Hp) ⊕ (Hp) ⊕ (Hp) ⊕ (Hp) ⊕ (Hp) ⊕ (Hp) ⊕ (Hp) ⊕ (Hp) ⊕ (Hp))) :=
  some (Sum.inl (v3 + 5, h))
def fL_law_b18 (η : xEnv) (v0 : UInt32) (v1 : Nat) (v2 : Nat) (s18 : Int32 × Hp) : Option ((Int32 × Hp) ⊕ ((Hp) ⊕ (Hp) ⊕ (Hp) ⊕ (Hp) ⊕ (Hp) ⊕ (Hp) ⊕ (Hp) ⊕ (Hp) ⊕ (Hp) ⊕ (Hp) ⊕ (Hp) ⊕ (Hp) ⊕ (Hp) ⊕ (Hp) ⊕ (Hp) ⊕ (Hp) ⊕ (Hp) ⊕ (Hp) ⊕ (Hp) ⊕ (Hp) ⊕ (Hp) ⊕ (Hp) ⊕ (Hp) ⊕ (Hp) ⊕ (Hp) ⊕ (Hp) ⊕ (Hp) ⊕ (Hp) ⊕ (Hp) ⊕ (Hp) ⊕ (Hp) ⊕ (Hp) ⊕ (Hp) ⊕ (Hp) ⊕ (Hp))) :=
  if ((Int32.ofNat η.2.2.2.2.1) - 5 : Int32) < s18.1 then (some (Sum.inr (Sum.inr (Sum.inr (Sum.inr (Sum.inr (Sum.inr (Sum.inr (Sum.inr (Sum.inr (Sum.inr (Sum.inr (Sum.inr (Sum.inr (Sum.inr (Sum.inr (Sum.inr (Sum.inr (Sum.inr (Sum.inr (Sum.inr (Sum.inr (Sum.inr (Sum.inr (Sum.inr (Sum.inr (Sum.inr (Sum.inr (Sum.inr (Sum.inr (Sum.inr (Sum.inr (Sum.inr (Sum.inr (Sum.inr (Sum.inr s18.2)))))))))))))))))))))))))))))))))))) else ((xsx η s18.1).bind fun x6 => if (x6 &&& 63 : Int32) = 0 then ((xsx η (s18.1 + 1)).bind fun x8 => (xat s18.2 v1 (8, 12) (fX8_bus v1 x8 s18.2)).bind fun q9 => (xsx η (s18.1 + 1)).bind fun x10 => (xat q9.2 v2 (9, 18) (fX9_bus v2 x10 q9.2)).bind fun q11 => if (q9.1 : Int32) = q11.1 then (fL_law_j1078 η v0 v1 v2 s18.1 q11.2) else (some (Sum.inr (Sum.inl q11.2)))) else if (x6 &&& 63 : Int32) = 1 then ((xsx η (s18.1 + 1)).bind fun x14 => (xat s18.2 v1 (8, 12) (fX8_room v1 x14 s18.2)).bind fun q15 => (xsx η (s18.1 + 1)).bind fun x16 => (xat q15.2 v2 (9, 18) (fX9_room v2 x16 q15.2)).bind fun q17 => if (q15.1 : Int32) = q17.1 then (fL_law_j1078 η v0 v1 v2 s18.1 q17.2) else (some (Sum.inr (Sum.inr (Sum.inl q17.2))))) else if (x6 &&& 63 : Int32) = 2 then ((xsx η (s18.1 + 1)).bind fun x20 => (xsx η (s18.1 + 2)).bind fun x21 => (xat s18.2 v1 (8, 12) (fX8_bridge v1 x20 x21 s18.2)).bind fun q22 => (xsx η (s18.1 + 1)).bind fun x23 => (xsx η (s18.1 + 2)).bind fun x24 => (xat q22.2 v2 (9, 18) (fX9_bridge v2 x23 x24 q22.2)).bind fun q25 => if (q22.1 : Int32) = q25.1 then (fL_law_j1078 η v0 v1 v2 s18.1 q25.2) else (some (Sum.inr (Sum.inr (Sum.inr (Sum.inl q25.2)))))) else if (x6 &&& 63 : Int32) = 3 then ((xsx η (s18.1 + 1)).bind fun x28 => (xsx η (s18.1 + 2)).bind fun x29 => (xsx η (s18.1 + 3)).bind fun x30 => (xsx η (s18.1 + 4)).bind fun x31 => (xat s18.2 v1 (8, 12) (fX8_idea v1 x28 x29 x30 x31 s18.2)).bind fun q32 => (xsx η (s18.1 + 1)).bind fun x33 => (xsx η (s18.1 + 2)).bind fun x34 => (xsx η (s18.1 + 3)).bind fun x35 => (xsx η (s18.1 + 4)).bind fun x36 => (xat q32.2 v2 (9, 18) (fX9_idea v2 x33 x34 x35 x36 q32.2)).bind fun q37 => if (q32.1 : Int32) = q37.1 then (fL_law_j1078 η v0 v1 v2 s18.1 q37.2) else (some (Sum.inr (Sum.inr (Sum.inr (Sum.inr (Sum.inl q37.2))))))) else if (x6 &&& 63 : Int32) = 4 then ((xsx η (s18.1 + 1)).bind fun x40 => (xsx η (s18.1 + 2)).bind fun x41 => (xsx η (s18.1 + 3)).bind fun x42 => (xat s18.2 v1 (8, 12) (fX8_quarrel v1 x40 x41 x42 s18.2)).bind fun q43 => (xsx η (s18.1 + 1)).bind fun x44 => (xsx η (s18.1 + 2)).bind fun x45 => (xsx η (s18.1 + 3)).bind fun x46 => (xat q43.2 v2 (9, 18) (fX9_quarrel v2 x44 x45 x46 q43.2)).bind fun q47 => if (q43.1 : Int32) = q47.1 then (fL_law_j1078 η v0 v1 v2 s18.1 q47.2) else (some (Sum.inr (Sum.inr (Sum.inr (Sum.inr (Sum.inr (Sum.inl q47.2)))))))) else if (x6 &&& 63 : Int32) = 5 then ((xsx η (s18.1 + 1)).bind fun x50 => (xat s18.2 v1 (8, 12) (fX8_type v1 x50 s18.2)).bind fun q51 => (xsx η (s18.1 + 1)).bind fun x52 => (xat q51.2 v2 (9, 18) (fX9_type v2 x52 q51.2)).bind fun q53 => if (q51.1 : Int32) = q53.1 then (fL_law_j1078 η v0 v1 v2 s18.1 q53.2) else (some (Sum.inr (Sum.inr (Sum.inr (Sum.inr (Sum.inr (Sum.inr (Sum.inl q53.2))))))))) else if (x6 &&& 63 : Int32) = 6 then ((xat s18.2 v1 (8, 12) (fX8_clear v1 s18.2)).bind fun q56 => (xat q56.2 v2 (9, 18) (fX9_clear v2 q56.2)).bind fun q57 => if (q56.1 : Int32) = q57.1 then (fL_law_j1078 η v0 v1 v2 s18.1 q57.2) else (some (Sum.inr (Sum.inr (Sum.inr (Sum.inr (Sum.inr (Sum.inr (Sum.inr (Sum.inl q57.2)))))))))) else if (x6 &&& 63 : Int32) = 7 then ((xat s18.2 v1 (8, 12) (fX8_read v1 s18.2)).bind fun q60 => (xat q60.2 v2 (9, 18) (fX9_read v2 q60.2)).bind fun q61 => if (q60.1 : Int32) = q61.1 then (fL_law_j1078 η v0 v1 v2 s18.1 q61.2) else (some (Sum.inr (Sum.inr (Sum.inr (Sum.inr (Sum.inr (Sum.inr (Sum.inr (Sum.inr (Sum.inl q61.2))))))))))) else if (x6 &&& 63 : Int32) = 8 then ((xsx η (s18.1 + 1)).bind fun x64 => (xat s18.2 v1 (8, 12) (fX8_drive v1 x64 s18.2)).bind fun q65 => (xsx η (s18.1 + 1)).bind fun x66 => (xat q65.2 v2 (9, 18) (fX9_drive v2 x66 q65.2)).bind fun q67 => if (q65.1 : Int32) = q67.1 then (fL_law_j1078 η v0 v1 v2 s18.1 q67.2) else (some (Sum.inr (Sum.inr (Sum.inr (Sum.inr (Sum.inr (Sum.inr (Sum.inr (Sum.inr (Sum.inr (Sum.inl q67.2)))))))))))) else if (x6 &&& 63 : Int32) = 9 then ((xsx η (s18.1 + 1)).bind fun x70 => (xat s18.2 v1 (8, 12) (fX8_puts v1 x70 s18.2)).bind fun q71 => (xsx η (s18.1 + 1)).bind fun x72 => (xat q71.2 v2 (9, 18) (fX9_puts v2 x72 q71.2)).bind fun q73 => if (q71.1 : Int32) = q73.1 then (fL_law_j1078 η v0 v1 v2 s18.1 q73.2) else (some (Sum.inr (Sum.inr (Sum.inr (Sum.inr (Sum.inr (Sum.inr (Sum.inr (Sum.inr (Sum.inr (Sum.inr (Sum.inl q73.2))))))))))))) else if (x6 &&& 63 : Int32) = 10 then ((xat s18.2 v1 (8, 12) (fX8_undo v1 s18.2)).bind fun q76 => (xat q76.2 v2 (9, 18) (fX9_undo v2 q76.2)).bind fun q77 => if (q76.1 : Int32) = q77.1 then (fL_law_j1078 η v0 v1 v2 s18.1 q77.2) else (some (Sum.inr (Sum.inr (Sum.inr (Sum.inr (Sum.inr (Sum.inr (Sum.inr (Sum.inr (Sum.inr (Sum.inr (Sum.inr (Sum.inl q77.2)))))))))))))) else if (x6 &&& 63 : Int32) = 11 then ((xsx η (s18.1 + 1)).bind fun x80 => (xsx η (s18.1 + 2)).bind fun x81 => (xat s18.2 v1 (8, 12) (fX8_of v1 x80 x81 s18.2)).bind fun q82 => (xsx η (s18.1 + 1)).bind fun x83 => (xsx η (s18.1 + 2)).bind fun x84 => (xat q82.2 v2 (9, 18) (fX9_of v2 x83 x84 q82.2)).bind fun q85 => if (q82.1 : Int32) = q85.1 then (fL_law_j1078 η v0 v1 v2 s18.1 q85.2) else (some (Sum.inr (Sum.inr (Sum.inr (Sum.inr (Sum.inr (Sum.inr (Sum.inr (Sum.inr (Sum.inr (Sum.inr (Sum.inr (Sum.inr (Sum.inl q85.2))))))))))))))) else if (x6 &&& 63 : Int32) = 12 then ((xsx η (s18.1 + 1)).bind fun x88 => (xsx η (s18.1 + 2)).bind fun x89 => (xsx η (s18.1 + 3)).bind fun x90 => (xat s18.2 v1 (8, 12) (fX8_sways v1 x88 x89 x90 s18.2)).bind fun q91 => (xsx η (s18.1 + 1)).bind fun x92 => (xsx η (s18.1 + 2)).bind fun x93 => (xsx η (s18.1 + 3)).bind fun x94 => (xat q91.2 v2 (9, 18) (fX9_sways v2 x92 x93 x94 q91.2)).bind fun q95 => if (q91.1 : Int32) = q95.1 then (fL_law_j1078 η v0 v1 v2 s18.1 q95.2) else (some (Sum.inr (Sum.inr (Sum.inr (Sum.inr (Sum.inr (Sum.inr (Sum.inr (Sum.inr (Sum.inr (Sum.inr (Sum.inr (Sum.inr (Sum.inr (Sum.inl q95.2)))))))))))))))) else if (x6 &&& 63 : Int32) = 13 then ((xsx η (s18.1 + 1)).bind fun x98 => (xat s18.2 v1 (8, 12) (fX8_now v1 x98 s18.2)).bind fun q99 => (xsx η (s18.1 + 1)).bind fun x100 => (xat q99.2 v2 (9, 18) (fX9_now v2 x100 q99.2)).bind fun q101 => if (q99.1 : Int32) = q101.1 then (fL_law_j1078 η v0 v1 v2 s18.1 q101.2) else (some (Sum.inr (Sum.inr (Sum.inr (Sum.inr (Sum.inr (Sum.inr (Sum.inr (Sum.inr (Sum.inr (Sum.inr (Sum.inr (Sum.inr (Sum.inr (Sum.inr (Sum.inl q101.2))))))))))))))))) else if (x6 &&& 63 : Int32) = 14 then ((xsx η (s18.1 + 1)).bind fun x104 => (xsx η (s18.1 + 2)).bind fun x105 => (xat s18.2 v1 (8, 12) (fX8_then v1 x104 x105 s18.2)).bind fun q106 => (xsx η (s18.1 + 1)).bind fun x107 => (xsx η (s18.1 + 2)).bind fun x108 => (xat q106.2 v2 (9, 18) (fX9_then v2 x107 x108 q106.2)).bind fun q109 => if (q106.1 : Int32) = q109.1 then (fL_law_j1078 η v0 v1 v2 s18.1 q109.2) else (some (Sum.inr (Sum.inr (Sum.inr (Sum.inr (Sum.inr (Sum.inr (Sum.inr (Sum.inr (Sum.inr (Sum.inr (Sum.inr (Sum.inr (Sum.inr (Sum.inr (Sum.inr (Sum.inl q109.2)))))))))))))))))) else if (x6 &&& 63 : Int32) = 15 then ((xsx η (s18.1 + 1)).bind fun x112 => (xat s18.2 v1 (8, 12) (fX8_end v1 x112 s18.2)).bind fun q113 => (xsx η (s18.1 + 1)).bind fun x114 => (xat q113.2 v2 (9, 18) (fX9_end v2 x114 q113.2)).bind fun q115 => if (q113.1 : Int32) = q115.1 then (fL_law_j1078 η v0 v1 v2 s18.1 q115.2) else (some (Sum.inr (Sum.inr (Sum.inr (Sum.inr (Sum.inr (Sum.inr (Sum.inr (Sum.inr (Sum.inr (Sum.inr (Sum.inr (Sum.inr (Sum.inr (Sum.inr (Sum.inr (Sum.inr (Sum.inl q115.2))))))))))))))))))) else if (x6 &&& 63 : Int32) = 16 then ((xsx η (s18.1 + 1)).bind fun x118 => (xat s18.2 v1 (8, 12) (fX8_decks v1 x118 s18.2)).bind fun q119 => (xsx η (s18.1 + 1)).bind fun x120 => (xat q119.2 v2 (9, 18) (fX9_decks v2 x120 q119.2)).bind fun q121 => if (q119.1 : Int32) = q121.1 then (fL_law_j1078 η v0 v1 v2 s18.1 q121.2) else (some (Sum.inr (Sum.inr (Sum.inr (Sum.inr (Sum.inr (Sum.inr (Sum.inr (Sum.inr (Sum.inr (Sum.inr (Sum.inr (Sum.inr (Sum.inr (Sum.inr (Sum.inr (Sum.inr (Sum.inr (Sum.inl q121.2)))))))))))))))))))) else if (x6 &&& 63 : Int32) = 17 then ((xat s18.2 v1 (8, 12) (fX8_better v1 s18.2)).bind fun q124 => (xat q124.2 v2 (9, 18) (fX9_better v2 q124.2)).bind fun q125 => if (q124.1 : Int32) = q125.1 then (fL_law_j1078 η v0 v1 v2 s18.1 q125.2) else (some (Sum.inr (Sum.inr (Sum.inr (Sum.inr (Sum.inr (Sum.inr (Sum.inr (Sum.inr (Sum.inr (Sum.inr (Sum.inr (Sum.inr (Sum.inr (Sum.inr (Sum.inr (Sum.inr (Sum.inr (Sum.inr (Sum.inl q125.2))))))))))))))))))))) else if (x6 &&& 63 : Int32) = 18 then ((xat s18.2 v1 (8, 12) (fX8_raise v1 s18.2)).bind fun q128 => (xat q128.2 v2 (9, 18) (fX9_raise v2 q128.2)).bind fun q129 => if (q128.1 : Int32) = q129.1 then (fL_law_j1078 η v0 v1 v2 s18.1 q129.2) else (some (Sum.inr (Sum.inr (Sum.inr (Sum.inr (Sum.inr (Sum.inr (Sum.inr (Sum.inr (Sum.inr (Sum.inr (Sum.inr (Sum.inr (Sum.inr (Sum.inr (Sum.inr (Sum.inr (Sum.inr (Sum.inr (Sum.inr (Sum.inl q129.2)))))))))))))))))))))) else if (x6 &&& 63 : Int32) = 19 then ((xsx η (s18.1 + 1)).bind fun x132 => (xsx η (s18.1 + 2)).bind fun x133 => (xsx η (s18.1 + 3)).bind fun x134 => (xat s18.2 v1 (8, 12) (fX8_upstairs v1 x132 x133 x134 s18.2)).bind fun q135 => (xsx η (s18.1 + 1)).bind fun x136 => (xsx η (s18.1 + 2)).bind fun x137 => (xsx η (s18.1 + 3)).bind fun x138 => (xat q135.2 v2 (9, 18) (fX9_upstairs v2 x136 x137 x138 q135.2)).bind fun q139 => if (q135.1 : Int32) = q139.1 then (fL_law_j1078 η v0 v1 v2 s18.1 q139.2) else (some (Sum.inr (Sum.inr (Sum.inr (Sum.inr (Sum.inr (Sum.inr (Sum.inr (Sum.inr (Sum.inr (Sum.inr (Sum.inr (Sum.inr (Sum.inr (Sum.inr (Sum.inr (Sum.inr (Sum.inr (Sum.inr (Sum.inr (Sum.inr (Sum.inl q139.2))))))))))))))))))))))) else if (x6 &&& 63 : Int32) = 20 then ((xsx η (s18.1 + 1)).bind fun x142 => (xsx η (s18.1 + 2)).bind fun x143 => (xsx η (s18.1 + 3)).bind fun x144 => (xsx η (s18.1 + 4)).bind fun x145 => (xat s18.2 v1 (8, 12) (fX8_note v1 x142 x143 x144 x145 s18.2)).bind fun q146 => (xsx η (s18.1 + 1)).bind fun x147 => (xsx η (s18.1 + 2)).bind fun x148 => (xsx η (s18.1 + 3)).bind fun x149 => (xsx η (s18.1 + 4)).bind fun x150 => (xat q146.2 v2 (9, 18) (fX9_note v2 x147 x148 x149 x150 q146.2)).bind fun q151 => if (q146.1 : Int32) = q151.1 then (fL_law_j1078 η v0 v1 v2 s18.1 q151.2) else (some (Sum.inr (Sum.inr (Sum.inr (Sum.inr (Sum.inr (Sum.inr (Sum.inr (Sum.inr (Sum.inr (Sum.inr (Sum.inr (Sum.inr (Sum.inr (Sum.inr (Sum.inr (Sum.inr (Sum.inr (Sum.inr (Sum.inr (Sum.inr (Sum.inr (Sum.inl q151.2)))))))))))))))))))))))) else if (x6 &&& 63 : Int32) = 21 then ((xat s18.2 v1 (8, 12) (fX8_forget v1 s18.2)).bind fun q154 => (xat q154.2 v2 (9, 18) (fX9_forget v2 q154.2)).bind fun q155 => if (q154.1 : Int32) = q155.1 then (fL_law_j1078 η v0 v1 v2 s18.1 q155.2) else (some (Sum.inr (Sum.inr (Sum.inr (Sum.inr (Sum.inr (Sum.inr (Sum.inr (Sum.inr (Sum.inr (Sum.inr (Sum.inr (Sum.inr (Sum.inr (Sum.inr (Sum.inr (Sum.inr (Sum.inr (Sum.inr (Sum.inr (Sum.inr (Sum.inr (Sum.inr (Sum.inl q155.2))))))))))))))))))))))))) else if (x6 &&& 63 : Int32) = 22 then ((xsx η (s18.1 + 1)).bind fun x158 => (xat s18.2 v1 (8, 12) (fX8_is v1 x158 s18.2)).bind fun q159 => (xsx η (s18.1 + 1)).bind fun x160 => (xat q159.2 v2 (9, 18) (fX9_is v2 x160 q159.2)).bind fun q161 => if (q159.1 : Int32) = q161.1 then (fL_law_j1078 η v0 v1 v2 s18.1 q161.2) else (some (Sum.inr (Sum.inr (Sum.inr (Sum.inr (Sum.inr (Sum.inr (Sum.inr (Sum.inr (Sum.inr (Sum.inr (Sum.inr (Sum.inr (Sum.inr (Sum.inr (Sum.inr (Sum.inr (Sum.inr (Sum.inr (Sum.inr (Sum.inr (Sum.inr (Sum.inr (Sum.inr (Sum.inl q161.2)))))))))))))))))))))))))) else if (x6 &&& 63 : Int32) = 23 then ((xsx η (s18.1 + 1)).bind fun x164 => (xat s18.2 v1 (8, 12) (fX8_look v1 x164 s18.2)).bind fun q165 => (xsx η (s18.1 + 1)).bind fun x166 => (xat q165.2 v2 (9, 18) (fX9_look v2 x166 q165.2)).bind fun q167 => if (q165.1 : Int32) = q167.1 then (fL_law_j1078 η v0 v1 v2 s18.1 q167.2) else (some (Sum.inr (Sum.inr (Sum.inr (Sum.inr (Sum.inr (Sum.inr (Sum.inr (Sum.inr (Sum.inr (Sum.inr (Sum.inr (Sum.inr (Sum.inr (Sum.inr (Sum.inr (Sum.inr (Sum.inr (Sum.inr (Sum.inr (Sum.inr (Sum.inr (Sum.inr (Sum.inr (Sum.inr (Sum.inl q167.2))))))))))))))))))))))))))) else if (x6 &&& 63 : Int32) = 24 then ((xsx η (s18.1 + 1)).bind fun x170 => (xat s18.2 v1 (8, 12) (fX8_fare v1 x170 s18.2)).bind fun q171 => (xsx η (s18.1 + 1)).bind fun x172 => (xat q171.2 v2 (9, 18) (fX9_fare v2 x172 q171.2)).bind fun q173 => if (q171.1 : Int32) = q173.1 then (fL_law_j1078 η v0 v1 v2 s18.1 q173.2) else (some (Sum.inr (Sum.inr (Sum.inr (Sum.inr (Sum.inr (Sum.inr (Sum.inr (Sum.inr (Sum.inr (Sum.inr (Sum.inr (Sum.inr (Sum.inr (Sum.inr (Sum.inr (Sum.inr (Sum.inr (Sum.inr (Sum.inr (Sum.inr (Sum.inr (Sum.inr (Sum.inr (Sum.inr (Sum.inr (Sum.inl q173.2)))))))))))))))))))))))))))) else if (x6 &&& 63 : Int32) = 25 then ((xsx η (s18.1 + 1)).bind fun x176 => (xsx η (s18.1 + 2)).bind fun x177 => (xsx η (s18.1 + 3)).bind fun x178 => (xat s18.2 v1 (8, 12) (fX8_two v1 x176 x177 x178 s18.2)).bind fun q179 => (xsx η (s18.1 + 1)).bind fun x180 => (xsx η (s18.1 + 2)).bind fun x181 => (xsx η (s18.1 + 3)).bind fun x182 => (xat q179.2 v2 (9, 18) (fX9_two v2 x180 x181 x182 q179.2)).bind fun q183 => if (q179.1 : Int32) = q183.1 then (fL_law_j1078 η v0 v1 v2 s18.1 q183.2) else (some (Sum.inr (Sum.inr (Sum.inr (Sum.inr (Sum.inr (Sum.inr (Sum.inr (Sum.inr (Sum.inr (Sum.inr (Sum.inr (Sum.inr (Sum.inr (Sum.inr (Sum.inr (Sum.inr (Sum.inr (Sum.inr (Sum.inr (Sum.inr (Sum.inr (Sum.inr (Sum.inr (Sum.inr (Sum.inr (Sum.inr (Sum.inl q183.2))))))))))))))))))))))))))))) else if (x6 &&& 63 : Int32) = 26 then ((xsx η (s18.1 + 1)).bind fun x186 => (xat s18.2 v1 (8, 12) (fX8_bell v1 x186 s18.2)).bind fun q187 => (xsx η (s18.1 + 1)).bind fun x188 => (xat q187.2 v2 (9, 18) (fX9_bell v2 x188 q187.2)).bind fun q189 => if (q187.1 : Int32) = q189.1 then (fL_law_j1078 η v0 v1 v2 s18.1 q189.2) else (some (Sum.inr (Sum.inr (Sum.inr (Sum.inr (Sum.inr (Sum.inr (Sum.inr (Sum.inr (Sum.inr (Sum.inr (Sum.inr (Sum.inr (Sum.inr (Sum.inr (Sum.inr (Sum.inr (Sum.inr (Sum.inr (Sum.inr (Sum.inr (Sum.inr (Sum.inr (Sum.inr (Sum.inr (Sum.inr (Sum.inr (Sum.inr (Sum.inl q189.2)))))))))))))))))))))))))))))) else if (x6 &&& 63 : Int32) = 27 then ((xsx η (s18.1 + 1)).bind fun x192 => (xsx η (s18.1 + 2)).bind fun x193 => (xat s18.2 v1 (8, 12) (fX8_days v1 x192 x193 s18.2)).bind fun q194 => (xsx η (s18.1 + 1)).bind fun x195 => (xsx η (s18.1 + 2)).bind fun x196 => (xat q194.2 v2 (9, 18) (fX9_days v2 x195 x196 q194.2)).bind fun q197 => if (q194.1 : Int32) = q197.1 then (fL_law_j1078 η v0 v1 v2 s18.1 q197.2) else (some (Sum.inr (Sum.inr (Sum.inr (Sum.inr (Sum.inr (Sum.inr (Sum.inr (Sum.inr (Sum.inr (Sum.inr (Sum.inr (Sum.inr (Sum.inr (Sum.inr (Sum.inr (Sum.inr (Sum.inr (Sum.inr (Sum.inr (Sum.inr (Sum.inr (Sum.inr (Sum.inr (Sum.inr (Sum.inr (Sum.inr (Sum.inr (Sum.inr (Sum.inl q197.2))))))))))))))))))))))))))))))) else if (x6 &&& 63 : Int32) = 28 then ((xsx η (s18.1 + 1)).bind fun x200 => (xat s18.2 v1 (8, 12) (fX8_part v1 x200 s18.2)).bind fun q201 => (xsx η (s18.1 + 1)).bind fun x202 => (xat q201.2 v2 (9, 18) (fX9_part v2 x202 q201.2)).bind fun q203 => if (lg_cmp q201.1 q203.1 : Int32) = 0 then (fL_law_j1078 η v0 v1 v2 s18.1 q203.2) else (some (Sum.inr (Sum.inr (Sum.inr (Sum.inr (Sum.inr (Sum.inr (Sum.inr (Sum.inr (Sum.inr (Sum.inr (Sum.inr (Sum.inr (Sum.inr (Sum.inr (Sum.inr (Sum.inr (Sum.inr (Sum.inr (Sum.inr (Sum.inr (Sum.inr (Sum.inr (Sum.inr (Sum.inr (Sum.inr (Sum.inr (Sum.inr (Sum.inr (Sum.inr (Sum.inl q203.2)))))))))))))))))))))))))))))))) else if (x6 &&& 63 : Int32) = 29 then ((xsx η (s18.1 + 1)).bind fun x206 => (xat s18.2 v1 (8, 12) (fX8_image v1 x206 s18.2)).bind fun q207 => (xsx η (s18.1 + 1)).bind fun x208 => (xat q207.2 v2 (9, 18) (fX9_image v2 x208 q207.2)).bind fun q209 => if (q207.1 : Int32) = q209.1 then (fL_law_j1078 η v0 v1 v2 s18.1 q209.2) else (some (Sum.inr (Sum.inr (Sum.inr (Sum.inr (Sum.inr (Sum.inr (Sum.inr (Sum.inr (Sum.inr (Sum.inr (Sum.inr (Sum.inr (Sum.inr (Sum.inr (Sum.inr (Sum.inr (Sum.inr (Sum.inr (Sum.inr (Sum.inr (Sum.inr (Sum.inr (Sum.inr (Sum.inr (Sum.inr (Sum.inr (Sum.inr (Sum.inr (Sum.inr (Sum.inr (Sum.inl q209.2))))))))))))))))))))))))))))))))) else if (x6 &&& 63 : Int32) = 30 then ((xsx η (s18.1 + 1)).bind fun x212 => (xat s18.2 v1 (8, 12) (fX8_from v1 x212 s18.2)).bind fun q213 => (xsx η (s18.1 + 1)).bind fun x214 => (xat q213.2 v2 (9, 18) (fX9_from v2 x214 q213.2)).bind fun q215 => if (q213.1 : Int32) = q215.1 then (fL_law_j1078 η v0 v1 v2 s18.1 q215.2) else (some (Sum.inr (Sum.inr (Sum.inr (Sum.inr (Sum.inr (Sum.inr (Sum.inr (Sum.inr (Sum.inr (Sum.inr (Sum.inr (Sum.inr (Sum.inr (Sum.inr (Sum.inr (Sum.inr (Sum.inr (Sum.inr (Sum.inr (Sum.inr (Sum.inr (Sum.inr (Sum.inr (Sum.inr (Sum.inr (Sum.inr (Sum.inr (Sum.inr (Sum.inr (Sum.inr (Sum.inr (Sum.inl q215.2)))))))))))))))))))))))))))))))))) else if (x6 &&& 63 : Int32) = 31 then ((xsx η (s18.1 + 1)).bind fun x218 => (xat s18.2 v1 (8, 12) (fX8_status v1 x218 s18.2)).bind fun q219 => (xsx η (s18.1 + 1)).bind fun x220 => (xat q219.2 v2 (9, 18) (fX9_status v2 x220 q219.2)).bind fun q221 => if (q219.1 : Int32) = q221.1 then (fL_law_j1078 η v0 v1 v2 s18.1 q221.2) else (some (Sum.inr (Sum.inr (Sum.inr (Sum.inr (Sum.inr (Sum.inr (Sum.inr (Sum.inr (Sum.inr (Sum.inr (Sum.inr (Sum.inr (Sum.inr (Sum.inr (Sum.inr (Sum.inr (Sum.inr (Sum.inr (Sum.inr (Sum.inr (Sum.inr (Sum.inr (Sum.inr (Sum.inr (Sum.inr (Sum.inr (Sum.inr (Sum.inr (Sum.inr (Sum.inr (Sum.inr (Sum.inr (Sum.inl q221.2))))))))))))))))))))))))))))))))))) else if (x6 &&& 63 : Int32) = 32 then ((xsx η (s18.1 + 1)).bind fun x224 => (xat s18.2 v1 (8, 12) (fX8_count v1 x224 s18.2)).bind fun q225 => (xsx η (s18.1 + 1)).bind fun x226 => (xat q225.2 v2 (9, 18) (fX9_count v2 x226 q225.2)).bind fun q227 => if (q225.1 : Int32) = q227.1 then (fL_law_j1078 η v0 v1 v2 s18.1 q227.2) else (some (Sum.inr (Sum.inr (Sum.inr (Sum.inr (Sum.inr (Sum.inr (Sum.inr (Sum.inr (Sum.inr (Sum.inr (Sum.inr (Sum.inr (Sum.inr (Sum.inr (Sum.inr (Sum.inr (Sum.inr (Sum.inr (Sum.inr (Sum.inr (Sum.inr (Sum.inr (Sum.inr (Sum.inr (Sum.inr (Sum.inr (Sum.inr (Sum.inr (Sum.inr (Sum.inr (Sum.inr (Sum.inr (Sum.inr (Sum.inl q227.2)))))))))))))))))))))))))))))))))))) else if (x6 &&& 63 : Int32) = 33 then ((xat s18.2 v1 (8, 12) (fX8_digest v1 s18.2)).bind fun q230 => (xat q230.2 v2 (9, 18) (fX9_digest v2 q230.2)).bind fun x231 => if (lg_cmp q230.1 x231 : Int32) = 0 then (fL_law_j1078 η v0 v1 v2 s18.1 q230.2) else (some (Sum.inr (Sum.inr (Sum.inr (Sum.inr (Sum.inr (Sum.inr (Sum.inr (Sum.inr (Sum.inr (Sum.inr (Sum.inr (Sum.inr (Sum.inr (Sum.inr (Sum.inr (Sum.inr (Sum.inr (Sum.inr (Sum.inr (Sum.inr (Sum.inr (Sum.inr (Sum.inr (Sum.inr (Sum.inr (Sum.inr (Sum.inr (Sum.inr (Sum.inr (Sum.inr (Sum.inr (Sum.inr (Sum.inr (Sum.inr (Sum.inl q230.2))))))))))))))))))))))))))))))))))))) else (fL_law_j1078 η v0 v1 v2 s18.1 s18.2))
def fL_law (η : xEnv) (h : Hp) : Option (Int32 × Hp) :=
  (xnew h (8, 12)).bind fun q1 => (fX8_init q1.1 q1.2).bind fun h2 => (xnew h2 (9, 18)).bind fun q3 => (fX9_init q3.1 q3.2).bind fun h4 => (xloop (fL_law_b18 η 100 q1.1 q3.1) 1000000 (0, h4)).bind (fun q => match q with | .inl r18 => (some (0, r18)) | .inr (.inl r18) => (some (0, r18)) | .inr (.inr (.inl r18)) => (some (0, r18)) | .inr (.inr (.inr (.inl r18))) => (some (0, r18)) | .inr (.inr (.inr (.inr (.inl r18)))) => (some (0, r18)) | .inr (.inr (.inr (.inr (.inr (.inl r18))))) => (some (0, r18)) | .inr (.inr (.inr (.inr (.inr (.inr (.inl r18)))))) => (some (0, r18)) | .inr (.inr (.inr (.inr (.inr (.inr (.inr (.inl r18))))))) => (some (0, r18)) | .inr (.inr (.inr (.inr (.inr (.inr (.inr (.inr (.inl r18)))))))) => (some (0, r18)) | .inr (.inr (.inr (.inr (.inr (.inr (.inr (.inr (.inr (.inl r18))))))))) => (some (0, r18)) | .inr (.inr (.inr (.inr (.inr (.inr (.inr (.inr (.inr (.inr (.inl r18)))))))))) => (some (0, r18)) | .inr (.inr (.inr (.inr (.inr (.inr (.inr (.inr (.inr (.inr (.inr (.inl r18))))))))))) => (some (0, r18)) | .inr (.inr (.inr (.inr (.inr (.inr (.inr (.inr (.inr (.inr (.inr (.inr (.inl r18)))))))))))) => (some (0, r18)) | .inr (.inr (.inr (.inr (.inr (.inr (.inr (.inr (.inr (.inr (.inr (.inr (.inr (.inl r18))))))))))))) => (some (0, r18)) | .inr (.inr (.inr (.inr (.inr (.inr (.inr (.inr (.inr (.inr (.inr (.inr (.inr (.inr (.inl r18)))))))))))))) => (some (0, r18)) | .inr (.inr (.inr (.inr (.inr (.inr (.inr (.inr (.inr (.inr (.inr (.inr (.inr (.inr (.inr (.inl r18))))))))))))))) => (some (0, r18)) | .inr (.inr (.inr (.inr (.inr (.inr (.inr (.inr (.inr (.inr (.inr (.inr (.inr (.inr (.inr (.inr (.inl r18)))))))))))))))) => (some (0, r18)) | .inr (.inr (.inr (.inr (.inr (.inr (.inr (.inr (.inr (.inr (.inr (.inr (.inr (.inr (.inr (.inr (.inr (.inl r18))))))))))))))))) => (some (0, r18)) | .inr (.inr (.inr (.inr (.inr (.inr (.inr (.inr (.inr (.inr (.inr (.inr (.inr (.inr (.inr (.inr (.inr (.inr (.inl r18)))))))))))))))))) => (some (0, r18)) | .inr (.inr (.inr (.inr (.inr (.inr (.inr (.inr (.inr (.inr (.inr (.inr (.inr (.inr (.inr (.inr (.inr (.inr (.inr (.inl r18))))))))))))))))))) => (some (0, r18)) | .inr (.inr (.inr (.inr (.inr (.inr (.inr (.inr (.inr (.inr (.inr (.inr (.inr (.inr (.inr (.inr (.inr (.inr (.inr (.inr (.inl r18)))))))))))))))))))) => (some (0, r18)) | .inr (.inr (.inr (.inr (.inr (.inr (.inr (.inr (.inr (.inr (.inr (.inr (.inr (.inr (.inr (.inr (.inr (.inr (.inr (.inr (.inr (.inl r18))))))))))))))))))))) => (some (0, r18)) | .inr (.inr (.inr (.inr (.inr (.inr (.inr (.inr (.inr (.inr (.inr (.inr (.inr (.inr (.inr (.inr (.inr (.inr (.inr (.inr (.inr (.inr (.inl r18)))))))))))))))))))))) => (some (0, r18)) | .inr (.inr (.inr (.inr (.inr (.inr (.inr (.inr (.inr (.inr (.inr (.inr (.inr (.inr (.inr (.inr (.inr (.inr (.inr (.inr (.inr (.inr (.inr (.inl r18))))))))))))))))))))))) => (some (0, r18)) | .inr (.inr (.inr (.inr (.inr (.inr (.inr (.inr (.inr (.inr (.inr (.inr (.inr (.inr (.inr (.inr (.inr (.inr (.inr (.inr (.inr (.inr (.inr (.inr (.inl r18)))))))))))))))))))))))) => (some (0, r18)) | .inr (.inr (.inr (.inr (.inr (.inr (.inr (.inr (.inr (.inr (.inr (.inr (.inr (.inr (.inr (.inr (.inr (.inr (.inr (.inr (.inr (.inr (.inr (.inr (.inr (.inl r18))))))))))))))))))))))))) => (some (0, r18)) | .inr (.inr (.inr (.inr (.inr (.inr (.inr (.inr (.inr (.inr (.inr (.inr (.inr (.inr (.inr (.inr (.inr (.inr (.inr (.inr (.inr (.inr (.inr (.inr (.inr (.inr (.inl r18)))))))))))))))))))))))))) => (some (0, r18)) | .inr (.inr (.inr (.inr (.inr (.inr (.inr (.inr (.inr (.inr (.inr (.inr (.inr (.inr (.inr (.inr (.inr (.inr (.inr (.inr (.inr (.inr (.inr (.inr (.inr (.inr (.inr (.inl r18))))))))))))))))))))))))))) => (some (0, r18)) | .inr (.inr (.inr (.inr (.inr (.inr (.inr (.inr (.inr (.inr (.inr (.inr (.inr (.inr (.inr (.inr (.inr (.inr (.inr (.inr (.inr (.inr (.inr (.inr (.inr (.inr (.inr (.inr (.inl r18)))))))))))))))))))))))))))) => (some (0, r18)) | .inr (.inr (.inr (.inr (.inr (.inr (.inr (.inr (.inr (.inr (.inr (.inr (.inr (.inr (.inr (.inr (.inr (.inr (.inr (.inr (.inr (.inr (.inr (.inr (.inr (.inr (.inr (.inr (.inr (.inl r18))))))))))))))))))))))))))))) => (some (0, r18)) | .inr (.inr (.inr (.inr (.inr (.inr (.inr (.inr (.inr (.inr (.inr (.inr (.inr (.inr (.inr (.inr (.inr (.inr (.inr (.inr (.inr (.inr (.inr (.inr (.inr (.inr (.inr (.inr (.inr (.inr (.inl r18)))))))))))))))))))))))))))))) => (some (0, r18)) | .inr (.inr (.inr (.inr (.inr (.inr (.inr (.inr (.inr (.inr (.inr (.inr (.inr (.inr (.inr (.inr (.inr (.inr (.inr (.inr (.inr (.inr (.inr (.inr (.inr (.inr (.inr (.inr (.inr (.inr (.inr (.inl r18))))))))))))))))))))))))))))))) => (some (0, r18)) | .inr (.inr (.inr (.inr (.inr (.inr (.inr (.inr (.inr (.inr (.inr (.inr (.inr (.inr (.inr (.inr (.inr (.inr (.inr (.inr (.inr (.inr (.inr (.inr (.inr (.inr (.inr (.inr (.inr (.inr (.inr (.inr (.inl r18)))))))))))))))))))))))))))))))) => (some (0, r18)) | .inr (.inr (.inr (.inr (.inr (.inr (.inr (.inr (.inr (.inr (.inr (.inr (.inr (.inr (.inr (.inr (.inr (.inr (.inr (.inr (.inr (.inr (.inr (.inr (.inr (.inr (.inr (.inr (.inr (.inr (.inr (.inr (.inr (.inl r18))))))))))))))))))))))))))))))))) => (some (0, r18)) | .inr (.inr (.inr (.inr (.inr (.inr (.inr (.inr (.inr (.inr (.inr (.inr (.inr (.inr (.inr (.inr (.inr (.inr (.inr (.inr (.inr (.inr (.inr (.inr (.inr (.inr (.inr (.inr (.inr (.inr (.inr (.inr (.inr (.inr r18))))))))))))))))))))))))))))))))) => (some (1, r18)))
abbrev iL_law (nm : String) : xI := (cL_law, yL_law.cls, nm, some .boolean, 4, 17)
set_option maxHeartbeats 8000000 in
set_option maxRecDepth 100000 in
theorem kL_law (nm : String) (κ : xK) (h : Hp) : xJ (iL_law nm) κ (fun x : Int32 × Hp => κ.2.2.2.1 = some (.int x.1) ∧ κ.2.2.2.2 = x.2) 0 [(0, .float 100)] [] h (fL_law κ.2.1 h) := by
  unfold fL_law
  refine j_new 8 12 dL_law_0 cl_RL_7 is_RX8 in_RX8 (by decide) rfl (fun q1 => ?_)
  refine j_dup dL_law_3 rfl ?_
  refine j_callI (as := []) (fun _ => none) (fun x => x) dL_law_4 ml_RL_9 tg_X8_init im_X8_init rfl (fun x hx => kX8_init κ.1 κ.2.1 q1.1 q1.2 x hx) (Nat.le_of_ble_eq_true rfl) (by decide) rfl rfl (Nat.le_of_ble_eq_true rfl) (fun h2 => ?_)
  show xJ (iL_law nm) κ _ 7 [(0, .float 100)] [.ref q1.1] h2 _
  refine j_astore_n (L' := [(1, .ref q1.1), (0, .float 100)]) dL_law_7 rfl (Nat.le_of_ble_eq_true rfl) rfl ?_
  refine j_new 9 18 dL_law_8 cl_RL_10 is_RX9 in_RX9 (by decide) rfl (fun q3 => ?_)
  refine j_dup dL_law_11 rfl ?_
  refine j_callI (as := []) (fun _ => none) (fun x => x) dL_law_12 ml_RL_12 tg_X9_init im_X9_init rfl (fun x hx => kX9_init κ.1 κ.2.1 q3.1 q3.2 x hx) (Nat.le_of_ble_eq_true rfl) (by decide) rfl rfl (Nat.le_of_ble_eq_true rfl) (fun h4 => ?_)
  show xJ (iL_law nm) κ _ 15 [(1, .ref q1.1), (0, .float 100)] [.ref q3.1] h4 _
  refine j_astore_n (L' := [(2, .ref q3.1), (1, .ref q1.1), (0, .float 100)]) dL_law_15 rfl (Nat.le_of_ble_eq_true rfl) rfl ?_
  refine j_iconst (x := 0) dL_law_16 (by decide) ?_
  refine j_istore_n (L' := [(3, .int 0), (2, .ref q3.1), (1, .ref q1.1), (0, .float 100)]) dL_law_17 rfl (Nat.le_of_ble_eq_true rfl) rfl ?_
  refine j_pick [3, 2, 1, 0] rfl ?_
  refine j_loop (pc := 18) (Lf := fun s18 : Int32 × Hp => [(0, .float 100), (1, .ref q1.1), (2, .ref q3.1), (3, .int s18.1)]) (Hf := fun s18 : Int32 × Hp => s18.2) (fun s18 => ?_) 1000000 (0, h4)
  show xJ (iL_law nm) κ _ 18 [(0, .float 100), (1, .ref q1.1), (2, .ref q3.1), (3, .int s18.1)] [] s18.2 (fL_law_b18 κ.2.1 100 q1.1 q3.1 s18)
  unfold fL_law_b18
  refine j_have (pj := 1078) (Lf := fun v : Int32 × Hp => [(0, .float 100), (1, .ref q1.1), (2, .ref q3.1), (3, .int v.1)]) (Sf := fun v : Int32 × Hp => []) (Hf := fun v : Int32 × Hp => v.2) (jf := fun v : Int32 × Hp => fL_law_j1078 κ.2.1 100 q1.1 q3.1 v.1 v.2) (fun v => ?_) (fun hj1078 => ?_)
  · obtain ⟨v3, h⟩ := v
    show xJ (iL_law nm) κ _ 1078 [(0, .float 100), (1, .ref q1.1), (2, .ref q3.1), (3, .int v3)] [] h (fL_law_j1078 κ.2.1 100 q1.1 q3.1 v3 h)
    unfold fL_law_j1078
    refine j_iinc (y := v3 + 5) (L' := [(3, .int (v3 + 5)), (0, .float 100), (1, .ref q1.1), (2, .ref q3.1)]) 3 dL_law_1078 rfl rfl (Nat.le_of_ble_eq_true rfl) rfl ?_
    refine j_goto (tgt := 18) dL_law_1081 (by decide) ?_
    refine j_pick [1, 2, 3, 0] rfl ?_
    exact j_again (v3 + 5, h) rfl rfl
  refine j_iload_n 3 dL_law_18 rfl rfl ?_
  refine j_sload_n 0 dL_law_19 rfl rfl ?_
  refine j_slenA dL_law_20 ?_
  refine j_iconst (x := 5) dL_law_21 (by decide) ?_
  refine j_isub dL_law_22 ?_
  refine j_icmp_gt (tgt := 1084) dL_law_23 (by decide) (fun c5 => ?_) (fun c5 => ?_)
  · refine j_exit (Sum.inr (Sum.inr (Sum.inr (Sum.inr (Sum.inr (Sum.inr (Sum.inr (Sum.inr (Sum.inr (Sum.inr (Sum.inr (Sum.inr (Sum.inr (Sum.inr (Sum.inr (Sum.inr (Sum.inr (Sum.inr (Sum.inr (Sum.inr (Sum.inr (Sum.inr (Sum.inr (Sum.inr (Sum.inr (Sum.inr (Sum.inr (Sum.inr (Sum.inr (Sum.inr (Sum.inr (Sum.inr (Sum.inr (Sum.inr s18.2)))))))))))))))))))))))))))))))))) ?_
    try dsimp only
    refine j_iconst (x := 1) dL_law_1084 (by decide) ?_
    exact j_zret (1, s18.2) dL_law_1085 rfl rfl (fun q => q)
  · refine j_sload_n 0 dL_law_26 rfl rfl ?_
    refine j_iload_n 3 dL_law_27 rfl rfl ?_
    refine j_sld dL_law_28 (fun x6 => ?_)
    refine j_bipush (x := 63) dL_law_29 (by decide) ?_
    refine j_iand dL_law_31 ?_
    refine j_tabv (w := 0) (off := 152) (tgt := 184) dL_law_32 (by decide) (by decide) (by decide) (by decide) (fun c7 => ?_) (fun c7 => ?_)
    · refine j_aload_n 1 dL_law_184 rfl rfl ?_
      refine j_sload_n 0 dL_law_185 rfl rfl ?_
      refine j_iload_n 3 dL_law_186 rfl rfl ?_
      refine j_iconst (x := 1) dL_law_187 (by decide) ?_
      refine j_iadd dL_law_188 ?_
      refine j_sld dL_law_189 (fun x8 => ?_)
      refine j_callV (as := [.int x8]) (fun x => some (.int x.1)) (fun x => x.2) 8 12 dL_law_190 ml_RL_13 tg_X8_bus im_X8_bus se_X8_bus rfl (by decide) (fun x hx => kX8_bus κ.1 κ.2.1 q1.1 x8 s18.2 x hx) (Nat.le_of_ble_eq_true rfl) (by decide) rfl rfl (Nat.le_of_ble_eq_true rfl) (fun q9 => ?_)
      show xJ (iL_law nm) κ _ 193 [(0, .float 100), (1, .ref q1.1), (2, .ref q3.1), (3, .int s18.1)] [.int q9.1] q9.2 _
      refine j_aload_n 2 dL_law_193 rfl rfl ?_
      refine j_sload_n 0 dL_law_194 rfl rfl ?_
      refine j_iload_n 3 dL_law_195 rfl rfl ?_
      refine j_iconst (x := 1) dL_law_196 (by decide) ?_
      refine j_iadd dL_law_197 ?_
      refine j_sld dL_law_198 (fun x10 => ?_)
      refine j_callV (as := [.int x10]) (fun x => some (.int x.1)) (fun x => x.2) 9 18 dL_law_199 ml_RL_17 tg_X9_bus im_X9_bus se_X9_bus rfl (by decide) (fun x hx => kX9_bus κ.1 κ.2.1 q3.1 x10 q9.2 x hx) (Nat.le_of_ble_eq_true rfl) (by decide) rfl rfl (Nat.le_of_ble_eq_true rfl) (fun q11 => ?_)
      show xJ (iL_law nm) κ _ 202 [(0, .float 100), (1, .ref q1.1), (2, .ref q3.1), (3, .int s18.1)] [.int q11.1, .int q9.1] q11.2 _
      refine j_icmp_eq (tgt := 1078) dL_law_202 (by decide) (fun c12 => ?_) (fun c12 => ?_)
      · refine j_pick [0, 1, 2, 3] rfl ?_
        exact hj1078 (s18.1, q11.2)
      · refine j_exit (Sum.inl q11.2) ?_
        try dsimp only
        refine j_iconst (x := 0) dL_law_205 (by decide) ?_
        exact j_zret (0, q11.2) dL_law_206 rfl rfl (fun q => q)
    refine j_tabv (w := 1) (off := 175) (tgt := 207) dL_law_32 (by decide) (by decide) (by decide) (by decide) (fun c13 => ?_) (fun c13 => ?_)
    · refine j_aload_n 1 dL_law_207 rfl rfl ?_
      refine j_sload_n 0 dL_law_208 rfl rfl ?_
      refine j_iload_n 3 dL_law_209 rfl rfl ?_
      refine j_iconst (x := 1) dL_law_210 (by decide) ?_
      refine j_iadd dL_law_211 ?_
      refine j_sld dL_law_212 (fun x14 => ?_)
      refine j_callV (as := [.int x14]) (fun x => some (.int x.1)) (fun x => x.2) 8 12 dL_law_213 ml_RL_18 tg_X8_room im_X8_room se_X8_room rfl (by decide) (fun x hx => kX8_room κ.1 κ.2.1 q1.1 x14 s18.2 x hx) (Nat.le_of_ble_eq_true rfl) (by decide) rfl rfl (Nat.le_of_ble_eq_true rfl) (fun q15 => ?_)
      show xJ (iL_law nm) κ _ 216 [(0, .float 100), (1, .ref q1.1), (2, .ref q3.1), (3, .int s18.1)] [.int q15.1] q15.2 _
      refine j_aload_n 2 dL_law_216 rfl rfl ?_
      refine j_sload_n 0 dL_law_217 rfl rfl ?_
      refine j_iload_n 3 dL_law_218 rfl rfl ?_
      refine j_iconst (x := 1) dL_law_219 (by decide) ?_
      refine j_iadd dL_law_220 ?_
      refine j_sld dL_law_221 (fun x16 => ?_)
      refine j_callV (as := [.int x16]) (fun x => some (.int x.1)) (fun x => x.2) 9 18 dL_law_222 ml_RL_21 tg_X9_room im_X9_room se_X9_room rfl (by decide) (fun x hx => kX9_room κ.1 κ.2.1 q3.1 x16 q15.2 x hx) (Nat.le_of_ble_eq_true rfl) (by decide) rfl rfl (Nat.le_of_ble_eq_true rfl) (fun q17 => ?_)
      show xJ (iL_law nm) κ _ 225 [(0, .float 100), (1, .ref q1.1), (2, .ref q3.1), (3, .int s18.1)] [.int q17.1, .int q15.1] q17.2 _
      refine j_icmp_eq (tgt := 1078) dL_law_225 (by decide) (fun c18 => ?_) (fun c18 => ?_)
      · refine j_pick [0, 1, 2, 3] rfl ?_
        exact hj1078 (s18.1, q17.2)
      · refine j_exit (Sum.inr (Sum.inl q17.2)) ?_
        try dsimp only
        refine j_iconst (x := 0) dL_law_228 (by decide) ?_
        exact j_zret (0, q17.2) dL_law_229 rfl rfl (fun q => q)
    refine j_tabv (w := 2) (off := 198) (tgt := 230) dL_law_32 (by decide) (by decide) (by decide) (by decide) (fun c19 => ?_) (fun c19 => ?_)
    · refine j_aload_n 1 dL_law_230 rfl rfl ?_
      refine j_sload_n 0 dL_law_231 rfl rfl ?_
      refine j_iload_n 3 dL_law_232 rfl rfl ?_
      refine j_iconst (x := 1) dL_law_233 (by decide) ?_
      refine j_iadd dL_law_234 ?_
      refine j_sld dL_law_235 (fun x20 => ?_)
      refine j_sload_n 0 dL_law_236 rfl rfl ?_
      refine j_iload_n 3 dL_law_237 rfl rfl ?_
      refine j_iconst (x := 2) dL_law_238 (by decide) ?_
      refine j_iadd dL_law_239 ?_
      refine j_sld dL_law_240 (fun x21 => ?_)
      refine j_callV (as := [.int x20, .int x21]) (fun x => some (.int x.1)) (fun x => x.2) 8 12 dL_law_241 ml_RL_22 tg_X8_bridge im_X8_bridge se_X8_bridge rfl (by decide) (fun x hx => kX8_bridge κ.1 κ.2.1 q1.1 x20 x21 s18.2 x hx) (Nat.le_of_ble_eq_true rfl) (by decide) rfl rfl (Nat.le_of_ble_eq_true rfl) (fun q22 => ?_)
      show xJ (iL_law nm) κ _ 244 [(0, .float 100), (1, .ref q1.1), (2, .ref q3.1), (3, .int s18.1)] [.int q22.1] q22.2 _
      refine j_aload_n 2 dL_law_244 rfl rfl ?_
      refine j_sload_n 0 dL_law_245 rfl rfl ?_
      refine j_iload_n 3 dL_law_246 rfl rfl ?_
      refine j_iconst (x := 1) dL_law_247 (by decide) ?_
      refine j_iadd dL_law_248 ?_
      refine j_sld dL_law_249 (fun x23 => ?_)
      refine j_sload_n 0 dL_law_250 rfl rfl ?_
      refine j_iload_n 3 dL_law_251 rfl rfl ?_
      refine j_iconst (x := 2) dL_law_252 (by decide) ?_
      refine j_iadd dL_law_253 ?_
      refine j_sld dL_law_254 (fun x24 => ?_)
      refine j_callV (as := [.int x23, .int x24]) (fun x => some (.int x.1)) (fun x => x.2) 9 18 dL_law_255 ml_RL_26 tg_X9_bridge im_X9_bridge se_X9_bridge rfl (by decide) (fun x hx => kX9_bridge κ.1 κ.2.1 q3.1 x23 x24 q22.2 x hx) (Nat.le_of_ble_eq_true rfl) (by decide) rfl rfl (Nat.le_of_ble_eq_true rfl) (fun q25 => ?_)
      show xJ (iL_law nm) κ _ 258 [(0, .float 100), (1, .ref q1.1), (2, .ref q3.1), (3, .int s18.1)] [.int q25.1, .int q22.1] q25.2 _
      refine j_icmp_eq (tgt := 1078) dL_law_258 (by decide) (fun c26 => ?_) (fun c26 => ?_)
      · refine j_pick [0, 1, 2, 3] rfl ?_
        exact hj1078 (s18.1, q25.2)
      · refine j_exit (Sum.inr (Sum.inr (Sum.inl q25.2))) ?_
        try dsimp only
        refine j_iconst (x := 0) dL_law_261 (by decide) ?_
        exact j_zret (0, q25.2) dL_law_262 rfl rfl (fun q => q)
    refine j_tabv (w := 3) (off := 231) (tgt := 263) dL_law_32 (by decide) (by decide) (by decide) (by decide) (fun c27 => ?_) (fun c27 => ?_)
    · refine j_aload_n 1 dL_law_263 rfl rfl ?_
      refine j_sload_n 0 dL_law_264 rfl rfl ?_
      refine j_iload_n 3 dL_law_265 rfl rfl ?_
      refine j_iconst (x := 1) dL_law_266 (by decide) ?_
      refine j_iadd dL_law_267 ?_
      refine j_sld dL_law_268 (fun x28 => ?_)
      refine j_sload_n 0 dL_law_269 rfl rfl ?_
      refine j_iload_n 3 dL_law_270 rfl rfl ?_
      refine j_iconst (x := 2) dL_law_271 (by decide) ?_
      refine j_iadd dL_law_272 ?_
      refine j_sld dL_law_273 (fun x29 => ?_)
      refine j_sload_n 0 dL_law_274 rfl rfl ?_
      refine j_iload_n 3 dL_law_275 rfl rfl ?_
      refine j_iconst (x := 3) dL_law_276 (by decide) ?_
      refine j_iadd dL_law_277 ?_
      refine j_sld dL_law_278 (fun x30 => ?_)
      refine j_sload_n 0 dL_law_279 rfl rfl ?_
      refine j_iload_n 3 dL_law_280 rfl rfl ?_
      refine j_iconst (x := 4) dL_law_281 (by decide) ?_
      refine j_iadd dL_law_282 ?_
      refine j_sld dL_law_283 (fun x31 => ?_)
      refine j_callV (as := [.int x28, .int x29, .int x30, .int x31]) (fun x => some (.int x.1)) (fun x => x.2) 8 12 dL_law_284 ml_RL_27 tg_X8_idea im_X8_idea se_X8_idea rfl (by decide) (fun x hx => kX8_idea κ.1 κ.2.1 q1.1 x28 x29 x30 x31 s18.2 x hx) (Nat.le_of_ble_eq_true rfl) (by decide) rfl rfl (Nat.le_of_ble_eq_true rfl) (fun q32 => ?_)
      show xJ (iL_law nm) κ _ 287 [(0, .float 100), (1, .ref q1.1), (2, .ref q3.1), (3, .int s18.1)] [.int q32.1] q32.2 _
      refine j_aload_n 2 dL_law_287 rfl rfl ?_
      refine j_sload_n 0 dL_law_288 rfl rfl ?_
      refine j_iload_n 3 dL_law_289 rfl rfl ?_
      refine j_iconst (x := 1) dL_law_290 (by decide) ?_
      refine j_iadd dL_law_291 ?_
      refine j_sld dL_law_292 (fun x33 => ?_)
      refine j_sload_n 0 dL_law_293 rfl rfl ?_
      refine j_iload_n 3 dL_law_294 rfl rfl ?_
      refine j_iconst (x := 2) dL_law_295 (by decide) ?_
      refine j_iadd dL_law_296 ?_
      refine j_sld dL_law_297 (fun x34 => ?_)
      refine j_sload_n 0 dL_law_298 rfl rfl ?_
      refine j_iload_n 3 dL_law_299 rfl rfl ?_
      refine j_iconst (x := 3) dL_law_300 (by decide) ?_
      refine j_iadd dL_law_301 ?_
      refine j_sld dL_law_302 (fun x35 => ?_)
      refine j_sload_n 0 dL_law_303 rfl rfl ?_
      refine j_iload_n 3 dL_law_304 rfl rfl ?_
      refine j_iconst (x := 4) dL_law_305 (by decide) ?_
      refine j_iadd dL_law_306 ?_
      refine j_sld dL_law_307 (fun x36 => ?_)
      refine j_callV (as := [.int x33, .int x34, .int x35, .int x36]) (fun x => some (.int x.1)) (fun x => x.2) 9 18 dL_law_308 ml_RL_31 tg_X9_idea im_X9_idea se_X9_idea rfl (by decide) (fun x hx => kX9_idea κ.1 κ.2.1 q3.1 x33 x34 x35 x36 q32.2 x hx) (Nat.le_of_ble_eq_true rfl) (by decide) rfl rfl (Nat.le_of_ble_eq_true rfl) (fun q37 => ?_)
      show xJ (iL_law nm) κ _ 311 [(0, .float 100), (1, .ref q1.1), (2, .ref q3.1), (3, .int s18.1)] [.int q37.1, .int q32.1] q37.2 _
      refine j_icmp_eq (tgt := 1078) dL_law_311 (by decide) (fun c38 => ?_) (fun c38 => ?_)
      · refine j_pick [0, 1, 2, 3] rfl ?_
        exact hj1078 (s18.1, q37.2)
      · refine j_exit (Sum.inr (Sum.inr (Sum.inr (Sum.inl q37.2)))) ?_
        try dsimp only
        refine j_iconst (x := 0) dL_law_314 (by decide) ?_
        exact j_zret (0, q37.2) dL_law_315 rfl rfl (fun q => q)
    refine j_tabv (w := 4) (off := 284) (tgt := 316) dL_law_32 (by decide) (by decide) (by decide) (by decide) (fun c39 => ?_) (fun c39 => ?_)
    · refine j_aload_n 1 dL_law_316 rfl rfl ?_
      refine j_sload_n 0 dL_law_317 rfl rfl ?_
      refine j_iload_n 3 dL_law_318 rfl rfl ?_
      refine j_iconst (x := 1) dL_law_319 (by decide) ?_
      refine j_iadd dL_law_320 ?_
      refine j_sld dL_law_321 (fun x40 => ?_)
      refine j_sload_n 0 dL_law_322 rfl rfl ?_
      refine j_iload_n 3 dL_law_323 rfl rfl ?_
      refine j_iconst (x := 2) dL_law_324 (by decide) ?_
      refine j_iadd dL_law_325 ?_
      refine j_sld dL_law_326 (fun x41 => ?_)
      refine j_sload_n 0 dL_law_327 rfl rfl ?_
      refine j_iload_n 3 dL_law_328 rfl rfl ?_
      refine j_iconst (x := 3) dL_law_329 (by decide) ?_
      refine j_iadd dL_law_330 ?_
      refine j_sld dL_law_331 (fun x42 => ?_)
      refine j_callV (as := [.int x40, .int x41, .int x42]) (fun x => some (.int x.1)) (fun x => x.2) 8 12 dL_law_332 ml_RL_32 tg_X8_quarrel im_X8_quarrel se_X8_quarrel rfl (by decide) (fun x hx => kX8_quarrel κ.1 κ.2.1 q1.1 x40 x41 x42 s18.2 x hx) (Nat.le_of_ble_eq_true rfl) (by decide) rfl rfl (Nat.le_of_ble_eq_true rfl) (fun q43 => ?_)
      show xJ (iL_law nm) κ _ 335 [(0, .float 100), (1, .ref q1.1), (2, .ref q3.1), (3, .int s18.1)] [.int q43.1] q43.2 _
      refine j_aload_n 2 dL_law_335 rfl rfl ?_
      refine j_sload_n 0 dL_law_336 rfl rfl ?_
      refine j_iload_n 3 dL_law_337 rfl rfl ?_
      refine j_iconst (x := 1) dL_law_338 (by decide) ?_
      refine j_iadd dL_law_339 ?_
      refine j_sld dL_law_340 (fun x44 => ?_)
      refine j_sload_n 0 dL_law_341 rfl rfl ?_
      refine j_iload_n 3 dL_law_342 rfl rfl ?_
      refine j_iconst (x := 2) dL_law_343 (by decide) ?_
      refine j_iadd dL_law_344 ?_
      refine j_sld dL_law_345 (fun x45 => ?_)
      refine j_sload_n 0 dL_law_346 rfl rfl ?_
      refine j_iload_n 3 dL_law_347 rfl rfl ?_
      refine j_iconst (x := 3) dL_law_348 (by decide) ?_
      refine j_iadd dL_law_349 ?_
      refine j_sld dL_law_350 (fun x46 => ?_)
      refine j_callV (as := [.int x44, .int x45, .int x46]) (fun x => some (.int x.1)) (fun x => x.2) 9 18 dL_law_351 ml_RL_36 tg_X9_quarrel im_X9_quarrel se_X9_quarrel rfl (by decide) (fun x hx => kX9_quarrel κ.1 κ.2.1 q3.1 x44 x45 x46 q43.2 x hx) (Nat.le_of_ble_eq_true rfl) (by decide) rfl rfl (Nat.le_of_ble_eq_true rfl) (fun q47 => ?_)
      show xJ (iL_law nm) κ _ 354 [(0, .float 100), (1, .ref q1.1), (2, .ref q3.1), (3, .int s18.1)] [.int q47.1, .int q43.1] q47.2 _
      refine j_icmp_eq (tgt := 1078) dL_law_354 (by decide) (fun c48 => ?_) (fun c48 => ?_)
      · refine j_pick [0, 1, 2, 3] rfl ?_
        exact hj1078 (s18.1, q47.2)
      · refine j_exit (Sum.inr (Sum.inr (Sum.inr (Sum.inr (Sum.inl q47.2))))) ?_
        try dsimp only
        refine j_iconst (x := 0) dL_law_357 (by decide) ?_
        exact j_zret (0, q47.2) dL_law_358 rfl rfl (fun q => q)
    refine j_tabv (w := 5) (off := 327) (tgt := 359) dL_law_32 (by decide) (by decide) (by decide) (by decide) (fun c49 => ?_) (fun c49 => ?_)
    · refine j_aload_n 1 dL_law_359 rfl rfl ?_
      refine j_sload_n 0 dL_law_360 rfl rfl ?_
      refine j_iload_n 3 dL_law_361 rfl rfl ?_
      refine j_iconst (x := 1) dL_law_362 (by decide) ?_
      refine j_iadd dL_law_363 ?_
      refine j_sld dL_law_364 (fun x50 => ?_)
      refine j_callV (as := [.int x50]) (fun x => some (.int x.1)) (fun x => x.2) 8 12 dL_law_365 ml_RL_37 tg_X8_type im_X8_type se_X8_type rfl (by decide) (fun x hx => kX8_type κ.1 κ.2.1 q1.1 x50 s18.2 x hx) (Nat.le_of_ble_eq_true rfl) (by decide) rfl rfl (Nat.le_of_ble_eq_true rfl) (fun q51 => ?_)
      show xJ (iL_law nm) κ _ 368 [(0, .float 100), (1, .ref q1.1), (2, .ref q3.1), (3, .int s18.1)] [.int q51.1] q51.2 _
      refine j_aload_n 2 dL_law_368 rfl rfl ?_
      refine j_sload_n 0 dL_law_369 rfl rfl ?_
      refine j_iload_n 3 dL_law_370 rfl rfl ?_
      refine j_iconst (x := 1) dL_law_371 (by decide) ?_
      refine j_iadd dL_law_372 ?_
      refine j_sld dL_law_373 (fun x52 => ?_)
      refine j_callV (as := [.int x52]) (fun x => some (.int x.1)) (fun x => x.2) 9 18 dL_law_374 ml_RL_40 tg_X9_type im_X9_type se_X9_type rfl (by decide) (fun x hx => kX9_type κ.1 κ.2.1 q3.1 x52 q51.2 x hx) (Nat.le_of_ble_eq_true rfl) (by decide) rfl rfl (Nat.le_of_ble_eq_true rfl) (fun q53 => ?_)
      show xJ (iL_law nm) κ _ 377 [(0, .float 100), (1, .ref q1.1), (2, .ref q3.1), (3, .int s18.1)] [.int q53.1, .int q51.1] q53.2 _
      refine j_icmp_eq (tgt := 1078) dL_law_377 (by decide) (fun c54 => ?_) (fun c54 => ?_)
      · refine j_pick [0, 1, 2, 3] rfl ?_
        exact hj1078 (s18.1, q53.2)
      · refine j_exit (Sum.inr (Sum.inr (Sum.inr (Sum.inr (Sum.inr (Sum.inl q53.2)))))) ?_
        try dsimp only
        refine j_iconst (x := 0) dL_law_380 (by decide) ?_
        exact j_zret (0, q53.2) dL_law_381 rfl rfl (fun q => q)
    refine j_tabv (w := 6) (off := 350) (tgt := 382) dL_law_32 (by decide) (by decide) (by decide) (by decide) (fun c55 => ?_) (fun c55 => ?_)
    · refine j_aload_n 1 dL_law_382 rfl rfl ?_
      refine j_callV (as := []) (fun x => some (.int x.1)) (fun x => x.2) 8 12 dL_law_383 ml_RL_41 tg_X8_clear im_X8_clear se_X8_clear rfl (by decide) (fun x hx => kX8_clear κ.1 κ.2.1 q1.1 s18.2 x hx) (Nat.le_of_ble_eq_true rfl) (by decide) rfl rfl (Nat.le_of_ble_eq_true rfl) (fun q56 => ?_)
      show xJ (iL_law nm) κ _ 386 [(0, .float 100), (1, .ref q1.1), (2, .ref q3.1), (3, .int s18.1)] [.int q56.1] q56.2 _
      refine j_aload_n 2 dL_law_386 rfl rfl ?_
      refine j_callV (as := []) (fun x => some (.int x.1)) (fun x => x.2) 9 18 dL_law_387 ml_RL_45 tg_X9_clear im_X9_clear se_X9_clear rfl (by decide) (fun x hx => kX9_clear κ.1 κ.2.1 q3.1 q56.2 x hx) (Nat.le_of_ble_eq_true rfl) (by decide) rfl rfl (Nat.le_of_ble_eq_true rfl) (fun q57 => ?_)
      show xJ (iL_law nm) κ _ 390 [(0, .float 100), (1, .ref q1.1), (2, .ref q3.1), (3, .int s18.1)] [.int q57.1, .int q56.1] q57.2 _
      refine j_icmp_eq (tgt := 1078) dL_law_390 (by decide) (fun c58 => ?_) (fun c58 => ?_)
      · refine j_pick [0, 1, 2, 3] rfl ?_
        exact hj1078 (s18.1, q57.2)
      · refine j_exit (Sum.inr (Sum.inr (Sum.inr (Sum.inr (Sum.inr (Sum.inr (Sum.inl q57.2))))))) ?_
        try dsimp only
        refine j_iconst (x := 0) dL_law_393 (by decide) ?_
        exact j_zret (0, q57.2) dL_law_394 rfl rfl (fun q => q)
    refine j_tabv (w := 7) (off := 363) (tgt := 395) dL_law_32 (by decide) (by decide) (by decide) (by decide) (fun c59 => ?_) (fun c59 => ?_)
    · refine j_aload_n 1 dL_law_395 rfl rfl ?_
      refine j_callV (as := []) (fun x => some (.int x.1)) (fun x => x.2) 8 12 dL_law_396 ml_RL_46 tg_X8_read im_X8_read se_X8_read rfl (by decide) (fun x hx => kX8_read κ.1 κ.2.1 q1.1 s18.2 x hx) (Nat.le_of_ble_eq_true rfl) (by decide) rfl rfl (Nat.le_of_ble_eq_true rfl) (fun q60 => ?_)
      show xJ (iL_law nm) κ _ 399 [(0, .float 100), (1, .ref q1.1), (2, .ref q3.1), (3, .int s18.1)] [.int q60.1] q60.2 _
      refine j_aload_n 2 dL_law_399 rfl rfl ?_
      refine j_callV (as := []) (fun x => some (.int x.1)) (fun x => x.2) 9 18 dL_law_400 ml_RL_49 tg_X9_read im_X9_read se_X9_read rfl (by decide) (fun x hx => kX9_read κ.1 κ.2.1 q3.1 q60.2 x hx) (Nat.le_of_ble_eq_true rfl) (by decide) rfl rfl (Nat.le_of_ble_eq_true rfl) (fun q61 => ?_)
      show xJ (iL_law nm) κ _ 403 [(0, .float 100), (1, .ref q1.1), (2, .ref q3.1), (3, .int s18.1)] [.int q61.1, .int q60.1] q61.2 _
      refine j_icmp_eq (tgt := 1078) dL_law_403 (by decide) (fun c62 => ?_) (fun c62 => ?_)
      · refine j_pick [0, 1, 2, 3] rfl ?_
        exact hj1078 (s18.1, q61.2)
      · refine j_exit (Sum.inr (Sum.inr (Sum.inr (Sum.inr (Sum.inr (Sum.inr (Sum.inr (Sum.inl q61.2)))))))) ?_
        try dsimp only
        refine j_iconst (x := 0) dL_law_406 (by decide) ?_
        exact j_zret (0, q61.2) dL_law_407 rfl rfl (fun q => q)
    refine j_tabv (w := 8) (off := 376) (tgt := 408) dL_law_32 (by decide) (by decide) (by decide) (by decide) (fun c63 => ?_) (fun c63 => ?_)
    · refine j_aload_n 1 dL_law_408 rfl rfl ?_
      refine j_sload_n 0 dL_law_409 rfl rfl ?_
      refine j_iload_n 3 dL_law_410 rfl rfl ?_
      refine j_iconst (x := 1) dL_law_411 (by decide) ?_
      refine j_iadd dL_law_412 ?_
      refine j_sld dL_law_413 (fun x64 => ?_)
      refine j_callV (as := [.int x64]) (fun x => some (.int x.1)) (fun x => x.2) 8 12 dL_law_414 ml_RL_50 tg_X8_drive im_X8_drive se_X8_drive rfl (by decide) (fun x hx => kX8_drive κ.1 κ.2.1 q1.1 x64 s18.2 x hx) (Nat.le_of_ble_eq_true rfl) (by decide) rfl rfl (Nat.le_of_ble_eq_true rfl) (fun q65 => ?_)
      show xJ (iL_law nm) κ _ 417 [(0, .float 100), (1, .ref q1.1), (2, .ref q3.1), (3, .int s18.1)] [.int q65.1] q65.2 _
      refine j_aload_n 2 dL_law_417 rfl rfl ?_
      refine j_sload_n 0 dL_law_418 rfl rfl ?_
      refine j_iload_n 3 dL_law_419 rfl rfl ?_
      refine j_iconst (x := 1) dL_law_420 (by decide) ?_
      refine j_iadd dL_law_421 ?_
      refine j_sld dL_law_422 (fun x66 => ?_)
      refine j_callV (as := [.int x66]) (fun x => some (.int x.1)) (fun x => x.2) 9 18 dL_law_423 ml_RL_53 tg_X9_drive im_X9_drive se_X9_drive rfl (by decide) (fun x hx => kX9_drive κ.1 κ.2.1 q3.1 x66 q65.2 x hx) (Nat.le_of_ble_eq_true rfl) (by decide) rfl rfl (Nat.le_of_ble_eq_true rfl) (fun q67 => ?_)
      show xJ (iL_law nm) κ _ 426 [(0, .float 100), (1, .ref q1.1), (2, .ref q3.1), (3, .int s18.1)] [.int q67.1, .int q65.1] q67.2 _
      refine j_icmp_eq (tgt := 1078) dL_law_426 (by decide) (fun c68 => ?_) (fun c68 => ?_)
      · refine j_pick [0, 1, 2, 3] rfl ?_
        exact hj1078 (s18.1, q67.2)
      · refine j_exit (Sum.inr (Sum.inr (Sum.inr (Sum.inr (Sum.inr (Sum.inr (Sum.inr (Sum.inr (Sum.inl q67.2))))))))) ?_
        try dsimp only
        refine j_iconst (x := 0) dL_law_429 (by decide) ?_
        exact j_zret (0, q67.2) dL_law_430 rfl rfl (fun q => q)
    refine j_tabv (w := 9) (off := 399) (tgt := 431) dL_law_32 (by decide) (by decide) (by decide) (by decide) (fun c69 => ?_) (fun c69 => ?_)
    · refine j_aload_n 1 dL_law_431 rfl rfl ?_
      refine j_sload_n 0 dL_law_432 rfl rfl ?_
      refine j_iload_n 3 dL_law_433 rfl rfl ?_
      refine j_iconst (x := 1) dL_law_434 (by decide) ?_
      refine j_iadd dL_law_435 ?_
      refine j_sld dL_law_436 (fun x70 => ?_)
      refine j_callV (as := [.int x70]) (fun x => some (.int x.1)) (fun x => x.2) 8 12 dL_law_437 ml_RL_54 tg_X8_puts im_X8_puts se_X8_puts rfl (by decide) (fun x hx => kX8_puts κ.1 κ.2.1 q1.1 x70 s18.2 x hx) (Nat.le_of_ble_eq_true rfl) (by decide) rfl rfl (Nat.le_of_ble_eq_true rfl) (fun q71 => ?_)
      show xJ (iL_law nm) κ _ 440 [(0, .float 100), (1, .ref q1.1), (2, .ref q3.1), (3, .int s18.1)] [.int q71.1] q71.2 _
      refine j_aload_n 2 dL_law_440 rfl rfl ?_
      refine j_sload_n 0 dL_law_441 rfl rfl ?_
      refine j_iload_n 3 dL_law_442 rfl rfl ?_
      refine j_iconst (x := 1) dL_law_443 (by decide) ?_
      refine j_iadd dL_law_444 ?_
      refine j_sld dL_law_445 (fun x72 => ?_)
      refine j_callV (as := [.int x72]) (fun x => some (.int x.1)) (fun x => x.2) 9 18 dL_law_446 ml_RL_57 tg_X9_puts im_X9_puts se_X9_puts rfl (by decide) (fun x hx => kX9_puts κ.1 κ.2.1 q3.1 x72 q71.2 x hx) (Nat.le_of_ble_eq_true rfl) (by decide) rfl rfl (Nat.le_of_ble_eq_true rfl) (fun q73 => ?_)
      show xJ (iL_law nm) κ _ 449 [(0, .float 100), (1, .ref q1.1), (2, .ref q3.1), (3, .int s18.1)] [.int q73.1, .int q71.1] q73.2 _
      refine j_icmp_eq (tgt := 1078) dL_law_449 (by decide) (fun c74 => ?_) (fun c74 => ?_)
      · refine j_pick [0, 1, 2, 3] rfl ?_
        exact hj1078 (s18.1, q73.2)
      · refine j_exit (Sum.inr (Sum.inr (Sum.inr (Sum.inr (Sum.inr (Sum.inr (Sum.inr (Sum.inr (Sum.inr (Sum.inl q73.2)))))))))) ?_
        try dsimp only
        refine j_iconst (x := 0) dL_law_452 (by decide) ?_
        exact j_zret (0, q73.2) dL_law_453 rfl rfl (fun q => q)
    refine j_tabv (w := 10) (off := 422) (tgt := 454) dL_law_32 (by decide) (by decide) (by decide) (by decide) (fun c75 => ?_) (fun c75 => ?_)
    · refine j_aload_n 1 dL_law_454 rfl rfl ?_
      refine j_callV (as := []) (fun x => some (.int x.1)) (fun x => x.2) 8 12 dL_law_455 ml_RL_58 tg_X8_undo im_X8_undo se_X8_undo rfl (by decide) (fun x hx => kX8_undo κ.1 κ.2.1 q1.1 s18.2 x hx) (Nat.le_of_ble_eq_true rfl) (by decide) rfl rfl (Nat.le_of_ble_eq_true rfl) (fun q76 => ?_)
      show xJ (iL_law nm) κ _ 458 [(0, .float 100), (1, .ref q1.1), (2, .ref q3.1), (3, .int s18.1)] [.int q76.1] q76.2 _
      refine j_aload_n 2 dL_law_458 rfl rfl ?_
      refine j_callV (as := []) (fun x => some (.int x.1)) (fun x => x.2) 9 18 dL_law_459 ml_RL_61 tg_X9_undo im_X9_undo se_X9_undo rfl (by decide) (fun x hx => kX9_undo κ.1 κ.2.1 q3.1 q76.2 x hx) (Nat.le_of_ble_eq_true rfl) (by decide) rfl rfl (Nat.le_of_ble_eq_true rfl) (fun q77 => ?_)
      show xJ (iL_law nm) κ _ 462 [(0, .float 100), (1, .ref q1.1), (2, .ref q3.1), (3, .int s18.1)] [.int q77.1, .int q76.1] q77.2 _
      refine j_icmp_eq (tgt := 1078) dL_law_462 (by decide) (fun c78 => ?_) (fun c78 => ?_)
      · refine j_pick [0, 1, 2, 3] rfl ?_
        exact hj1078 (s18.1, q77.2)
      · refine j_exit (Sum.inr (Sum.inr (Sum.inr (Sum.inr (Sum.inr (Sum.inr (Sum.inr (Sum.inr (Sum.inr (Sum.inr (Sum.inl q77.2))))))))))) ?_
        try dsimp only
        refine j_iconst (x := 0) dL_law_465 (by decide) ?_
        exact j_zret (0, q77.2) dL_law_466 rfl rfl (fun q => q)
    refine j_tabv (w := 11) (off := 435) (tgt := 467) dL_law_32 (by decide) (by decide) (by decide) (by decide) (fun c79 => ?_) (fun c79 => ?_)
    · refine j_aload_n 1 dL_law_467 rfl rfl ?_
      refine j_sload_n 0 dL_law_468 rfl rfl ?_
      refine j_iload_n 3 dL_law_469 rfl rfl ?_
      refine j_iconst (x := 1) dL_law_470 (by decide) ?_
      refine j_iadd dL_law_471 ?_
      refine j_sld dL_law_472 (fun x80 => ?_)
      refine j_sload_n 0 dL_law_473 rfl rfl ?_
      refine j_iload_n 3 dL_law_474 rfl rfl ?_
      refine j_iconst (x := 2) dL_law_475 (by decide) ?_
      refine j_iadd dL_law_476 ?_
      refine j_sld dL_law_477 (fun x81 => ?_)
      refine j_callV (as := [.int x80, .int x81]) (fun x => some (.int x.1)) (fun x => x.2) 8 12 dL_law_478 ml_RL_62 tg_X8_of im_X8_of se_X8_of rfl (by decide) (fun x hx => kX8_of κ.1 κ.2.1 q1.1 x80 x81 s18.2 x hx) (Nat.le_of_ble_eq_true rfl) (by decide) rfl rfl (Nat.le_of_ble_eq_true rfl) (fun q82 => ?_)
      show xJ (iL_law nm) κ _ 481 [(0, .float 100), (1, .ref q1.1), (2, .ref q3.1), (3, .int s18.1)] [.int q82.1] q82.2 _
      refine j_aload_n 2 dL_law_481 rfl rfl ?_
      refine j_sload_n 0 dL_law_482 rfl rfl ?_
      refine j_iload_n 3 dL_law_483 rfl rfl ?_
      refine j_iconst (x := 1) dL_law_484 (by decide) ?_
      refine j_iadd dL_law_485 ?_
      refine j_sld dL_law_486 (fun x83 => ?_)
      refine j_sload_n 0 dL_law_487 rfl rfl ?_
      refine j_iload_n 3 dL_law_488 rfl rfl ?_
      refine j_iconst (x := 2) dL_law_489 (by decide) ?_
      refine j_iadd dL_law_490 ?_
      refine j_sld dL_law_491 (fun x84 => ?_)
      refine j_callV (as := [.int x83, .int x84]) (fun x => some (.int x.1)) (fun x => x.2) 9 18 dL_law_492 ml_RL_65 tg_X9_of im_X9_of se_X9_of rfl (by decide) (fun x hx => kX9_of κ.1 κ.2.1 q3.1 x83 x84 q82.2 x hx) (Nat.le_of_ble_eq_true rfl) (by decide) rfl rfl (Nat.le_of_ble_eq_true rfl) (fun q85 => ?_)
      show xJ (iL_law nm) κ _ 495 [(0, .float 100), (1, .ref q1.1), (2, .ref q3.1), (3, .int s18.1)] [.int q85.1, .int q82.1] q85.2 _
      refine j_icmp_eq (tgt := 1078) dL_law_495 (by decide) (fun c86 => ?_) (fun c86 => ?_)
      · refine j_pick [0, 1, 2, 3] rfl ?_
        exact hj1078 (s18.1, q85.2)
      · refine j_exit (Sum.inr (Sum.inr (Sum.inr (Sum.inr (Sum.inr (Sum.inr (Sum.inr (Sum.inr (Sum.inr (Sum.inr (Sum.inr (Sum.inl q85.2)))))))))))) ?_
        try dsimp only
        refine j_iconst (x := 0) dL_law_498 (by decide) ?_
        exact j_zret (0, q85.2) dL_law_499 rfl rfl (fun q => q)
    refine j_tabv (w := 12) (off := 468) (tgt := 500) dL_law_32 (by decide) (by decide) (by decide) (by decide) (fun c87 => ?_) (fun c87 => ?_)
    · refine j_aload_n 1 dL_law_500 rfl rfl ?_
      refine j_sload_n 0 dL_law_501 rfl rfl ?_
      refine j_iload_n 3 dL_law_502 rfl rfl ?_
      refine j_iconst (x := 1) dL_law_503 (by decide) ?_
      refine j_iadd dL_law_504 ?_
      refine j_sld dL_law_505 (fun x88 => ?_)
      refine j_sload_n 0 dL_law_506 rfl rfl ?_
      refine j_iload_n 3 dL_law_507 rfl rfl ?_
      refine j_iconst (x := 2) dL_law_508 (by decide) ?_
      refine j_iadd dL_law_509 ?_
      refine j_sld dL_law_510 (fun x89 => ?_)
      refine j_sload_n 0 dL_law_511 rfl rfl ?_
      refine j_iload_n 3 dL_law_512 rfl rfl ?_
      refine j_iconst (x := 3) dL_law_513 (by decide) ?_
      refine j_iadd dL_law_514 ?_
      refine j_sld dL_law_515 (fun x90 => ?_)
      refine j_callV (as := [.int x88, .int x89, .int x90]) (fun x => some (.int x.1)) (fun x => x.2) 8 12 dL_law_516 ml_RL_66 tg_X8_sways im_X8_sways se_X8_sways rfl (by decide) (fun x hx => kX8_sways κ.1 κ.2.1 q1.1 x88 x89 x90 s18.2 x hx) (Nat.le_of_ble_eq_true rfl) (by decide) rfl rfl (Nat.le_of_ble_eq_true rfl) (fun q91 => ?_)
      show xJ (iL_law nm) κ _ 519 [(0, .float 100), (1, .ref q1.1), (2, .ref q3.1), (3, .int s18.1)] [.int q91.1] q91.2 _
      refine j_aload_n 2 dL_law_519 rfl rfl ?_
      refine j_sload_n 0 dL_law_520 rfl rfl ?_
      refine j_iload_n 3 dL_law_521 rfl rfl ?_
      refine j_iconst (x := 1) dL_law_522 (by decide) ?_
      refine j_iadd dL_law_523 ?_
      refine j_sld dL_law_524 (fun x92 => ?_)
      refine j_sload_n 0 dL_law_525 rfl rfl ?_
      refine j_iload_n 3 dL_law_526 rfl rfl ?_
      refine j_iconst (x := 2) dL_law_527 (by decide) ?_
      refine j_iadd dL_law_528 ?_
      refine j_sld dL_law_529 (fun x93 => ?_)
      refine j_sload_n 0 dL_law_530 rfl rfl ?_
      refine j_iload_n 3 dL_law_531 rfl rfl ?_
      refine j_iconst (x := 3) dL_law_532 (by decide) ?_
      refine j_iadd dL_law_533 ?_
      refine j_sld dL_law_534 (fun x94 => ?_)
      refine j_callV (as := [.int x92, .int x93, .int x94]) (fun x => some (.int x.1)) (fun x => x.2) 9 18 dL_law_535 ml_RL_69 tg_X9_sways im_X9_sways se_X9_sways rfl (by decide) (fun x hx => kX9_sways κ.1 κ.2.1 q3.1 x92 x93 x94 q91.2 x hx) (Nat.le_of_ble_eq_true rfl) (by decide) rfl rfl (Nat.le_of_ble_eq_true rfl) (fun q95 => ?_)
      show xJ (iL_law nm) κ _ 538 [(0, .float 100), (1, .ref q1.1), (2, .ref q3.1), (3, .int s18.1)] [.int q95.1, .int q91.1] q95.2 _
      refine j_icmp_eq (tgt := 1078) dL_law_538 (by decide) (fun c96 => ?_) (fun c96 => ?_)
      · refine j_pick [0, 1, 2, 3] rfl ?_
        exact hj1078 (s18.1, q95.2)
      · refine j_exit (Sum.inr (Sum.inr (Sum.inr (Sum.inr (Sum.inr (Sum.inr (Sum.inr (Sum.inr (Sum.inr (Sum.inr (Sum.inr (Sum.inr (Sum.inl q95.2))))))))))))) ?_
        try dsimp only
        refine j_iconst (x := 0) dL_law_541 (by decide) ?_
        exact j_zret (0, q95.2) dL_law_542 rfl rfl (fun q => q)
    refine j_tabv (w := 13) (off := 511) (tgt := 543) dL_law_32 (by decide) (by decide) (by decide) (by decide) (fun c97 => ?_) (fun c97 => ?_)
    · refine j_aload_n 1 dL_law_543 rfl rfl ?_
      refine j_sload_n 0 dL_law_544 rfl rfl ?_
      refine j_iload_n 3 dL_law_545 rfl rfl ?_
      refine j_iconst (x := 1) dL_law_546 (by decide) ?_
      refine j_iadd dL_law_547 ?_
      refine j_sld dL_law_548 (fun x98 => ?_)
      refine j_callV (as := [.int x98]) (fun x => some (.int x.1)) (fun x => x.2) 8 12 dL_law_549 ml_RL_70 tg_X8_now im_X8_now se_X8_now rfl (by decide) (fun x hx => kX8_now κ.1 κ.2.1 q1.1 x98 s18.2 x hx) (Nat.le_of_ble_eq_true rfl) (by decide) rfl rfl (Nat.le_of_ble_eq_true rfl) (fun q99 => ?_)
      show xJ (iL_law nm) κ _ 552 [(0, .float 100), (1, .ref q1.1), (2, .ref q3.1), (3, .int s18.1)] [.int q99.1] q99.2 _
      refine j_aload_n 2 dL_law_552 rfl rfl ?_
      refine j_sload_n 0 dL_law_553 rfl rfl ?_
      refine j_iload_n 3 dL_law_554 rfl rfl ?_
      refine j_iconst (x := 1) dL_law_555 (by decide) ?_
      refine j_iadd dL_law_556 ?_
      refine j_sld dL_law_557 (fun x100 => ?_)
      refine j_callV (as := [.int x100]) (fun x => some (.int x.1)) (fun x => x.2) 9 18 dL_law_558 ml_RL_73 tg_X9_now im_X9_now se_X9_now rfl (by decide) (fun x hx => kX9_now κ.1 κ.2.1 q3.1 x100 q99.2 x hx) (Nat.le_of_ble_eq_true rfl) (by decide) rfl rfl (Nat.le_of_ble_eq_true rfl) (fun q101 => ?_)
      show xJ (iL_law nm) κ _ 561 [(0, .float 100), (1, .ref q1.1), (2, .ref q3.1), (3, .int s18.1)] [.int q101.1, .int q99.1] q101.2 _
      refine j_icmp_eq (tgt := 1078) dL_law_561 (by decide) (fun c102 => ?_) (fun c102 => ?_)
      · refine j_pick [0, 1, 2, 3] rfl ?_
        exact hj1078 (s18.1, q101.2)
      · refine j_exit (Sum.inr (Sum.inr (Sum.inr (Sum.inr (Sum.inr (Sum.inr (Sum.inr (Sum.inr (Sum.inr (Sum.inr (Sum.inr (Sum.inr (Sum.inr (Sum.inl q101.2)))))))))))))) ?_
        try dsimp only
        refine j_iconst (x := 0) dL_law_564 (by decide) ?_
        exact j_zret (0, q101.2) dL_law_565 rfl rfl (fun q => q)
    refine j_tabv (w := 14) (off := 534) (tgt := 566) dL_law_32 (by decide) (by decide) (by decide) (by decide) (fun c103 => ?_) (fun c103 => ?_)
    · refine j_aload_n 1 dL_law_566 rfl rfl ?_
      refine j_sload_n 0 dL_law_567 rfl rfl ?_
      refine j_iload_n 3 dL_law_568 rfl rfl ?_
      refine j_iconst (x := 1) dL_law_569 (by decide) ?_
      refine j_iadd dL_law_570 ?_
      refine j_sld dL_law_571 (fun x104 => ?_)
      refine j_sload_n 0 dL_law_572 rfl rfl ?_
      refine j_iload_n 3 dL_law_573 rfl rfl ?_
      refine j_iconst (x := 2) dL_law_574 (by decide) ?_
      refine j_iadd dL_law_575 ?_
      refine j_sld dL_law_576 (fun x105 => ?_)
      refine j_callV (as := [.int x104, .int x105]) (fun x => some (.int x.1)) (fun x => x.2) 8 12 dL_law_577 ml_RL_74 tg_X8_then im_X8_then se_X8_then rfl (by decide) (fun x hx => kX8_then κ.1 κ.2.1 q1.1 x104 x105 s18.2 x hx) (Nat.le_of_ble_eq_true rfl) (by decide) rfl rfl (Nat.le_of_ble_eq_true rfl) (fun q106 => ?_)
      show xJ (iL_law nm) κ _ 580 [(0, .float 100), (1, .ref q1.1), (2, .ref q3.1), (3, .int s18.1)] [.int q106.1] q106.2 _
      refine j_aload_n 2 dL_law_580 rfl rfl ?_
      refine j_sload_n 0 dL_law_581 rfl rfl ?_
      refine j_iload_n 3 dL_law_582 rfl rfl ?_
      refine j_iconst (x := 1) dL_law_583 (by decide) ?_
      refine j_iadd dL_law_584 ?_
      refine j_sld dL_law_585 (fun x107 => ?_)
      refine j_sload_n 0 dL_law_586 rfl rfl ?_
      refine j_iload_n 3 dL_law_587 rfl rfl ?_
      refine j_iconst (x := 2) dL_law_588 (by decide) ?_
      refine j_iadd dL_law_589 ?_
      refine j_sld dL_law_590 (fun x108 => ?_)
      refine j_callV (as := [.int x107, .int x108]) (fun x => some (.int x.1)) (fun x => x.2) 9 18 dL_law_591 ml_RL_77 tg_X9_then im_X9_then se_X9_then rfl (by decide) (fun x hx => kX9_then κ.1 κ.2.1 q3.1 x107 x108 q106.2 x hx) (Nat.le_of_ble_eq_true rfl) (by decide) rfl rfl (Nat.le_of_ble_eq_true rfl) (fun q109 => ?_)
      show xJ (iL_law nm) κ _ 594 [(0, .float 100), (1, .ref q1.1), (2, .ref q3.1), (3, .int s18.1)] [.int q109.1, .int q106.1] q109.2 _
      refine j_icmp_eq (tgt := 1078) dL_law_594 (by decide) (fun c110 => ?_) (fun c110 => ?_)
      · refine j_pick [0, 1, 2, 3] rfl ?_
        exact hj1078 (s18.1, q109.2)
      · refine j_exit (Sum.inr (Sum.inr (Sum.inr (Sum.inr (Sum.inr (Sum.inr (Sum.inr (Sum.inr (Sum.inr (Sum.inr (Sum.inr (Sum.inr (Sum.inr (Sum.inr (Sum.inl q109.2))))))))))))))) ?_
        try dsimp only
        refine j_iconst (x := 0) dL_law_597 (by decide) ?_
        exact j_zret (0, q109.2) dL_law_598 rfl rfl (fun q => q)
    refine j_tabv (w := 15) (off := 567) (tgt := 599) dL_law_32 (by decide) (by decide) (by decide) (by decide) (fun c111 => ?_) (fun c111 => ?_)
    · refine j_aload_n 1 dL_law_599 rfl rfl ?_
      refine j_sload_n 0 dL_law_600 rfl rfl ?_
      refine j_iload_n 3 dL_law_601 rfl rfl ?_
      refine j_iconst (x := 1) dL_law_602 (by decide) ?_
      refine j_iadd dL_law_603 ?_
      refine j_sld dL_law_604 (fun x112 => ?_)
      refine j_callV (as := [.int x112]) (fun x => some (.int x.1)) (fun x => x.2) 8 12 dL_law_605 ml_RL_78 tg_X8_end im_X8_end se_X8_end rfl (by decide) (fun x hx => kX8_end κ.1 κ.2.1 q1.1 x112 s18.2 x hx) (Nat.le_of_ble_eq_true rfl) (by decide) rfl rfl (Nat.le_of_ble_eq_true rfl) (fun q113 => ?_)
      show xJ (iL_law nm) κ _ 608 [(0, .float 100), (1, .ref q1.1), (2, .ref q3.1), (3, .int s18.1)] [.int q113.1] q113.2 _
      refine j_aload_n 2 dL_law_608 rfl rfl ?_
      refine j_sload_n 0 dL_law_609 rfl rfl ?_
      refine j_iload_n 3 dL_law_610 rfl rfl ?_
      refine j_iconst (x := 1) dL_law_611 (by decide) ?_
      refine j_iadd dL_law_612 ?_
      refine j_sld dL_law_613 (fun x114 => ?_)
      refine j_callV (as := [.int x114]) (fun x => some (.int x.1)) (fun x => x.2) 9 18 dL_law_614 ml_RL_81 tg_X9_end im_X9_end se_X9_end rfl (by decide) (fun x hx => kX9_end κ.1 κ.2.1 q3.1 x114 q113.2 x hx) (Nat.le_of_ble_eq_true rfl) (by decide) rfl rfl (Nat.le_of_ble_eq_true rfl) (fun q115 => ?_)
      show xJ (iL_law nm) κ _ 617 [(0, .float 100), (1, .ref q1.1), (2, .ref q3.1), (3, .int s18.1)] [.int q115.1, .int q113.1] q115.2 _
      refine j_icmp_eq (tgt := 1078) dL_law_617 (by decide) (fun c116 => ?_) (fun c116 => ?_)
      · refine j_pick [0, 1, 2, 3] rfl ?_
        exact hj1078 (s18.1, q115.2)
      · refine j_exit (Sum.inr (Sum.inr (Sum.inr (Sum.inr (Sum.inr (Sum.inr (Sum.inr (Sum.inr (Sum.inr (Sum.inr (Sum.inr (Sum.inr (Sum.inr (Sum.inr (Sum.inr (Sum.inl q115.2)))))))))))))))) ?_
        try dsimp only
        refine j_iconst (x := 0) dL_law_620 (by decide) ?_
        exact j_zret (0, q115.2) dL_law_621 rfl rfl (fun q => q)
    refine j_tabv (w := 16) (off := 590) (tgt := 622) dL_law_32 (by decide) (by decide) (by decide) (by decide) (fun c117 => ?_) (fun c117 => ?_)
    · refine j_aload_n 1 dL_law_622 rfl rfl ?_
      refine j_sload_n 0 dL_law_623 rfl rfl ?_
      refine j_iload_n 3 dL_law_624 rfl rfl ?_
      refine j_iconst (x := 1) dL_law_625 (by decide) ?_
      refine j_iadd dL_law_626 ?_
      refine j_sld dL_law_627 (fun x118 => ?_)
      refine j_callV (as := [.int x118]) (fun x => some (.int x.1)) (fun x => x.2) 8 12 dL_law_628 ml_RL_82 tg_X8_decks im_X8_decks se_X8_decks rfl (by decide) (fun x hx => kX8_decks κ.1 κ.2.1 q1.1 x118 s18.2 x hx) (Nat.le_of_ble_eq_true rfl) (by decide) rfl rfl (Nat.le_of_ble_eq_true rfl) (fun q119 => ?_)
      show xJ (iL_law nm) κ _ 631 [(0, .float 100), (1, .ref q1.1), (2, .ref q3.1), (3, .int s18.1)] [.int q119.1] q119.2 _
      refine j_aload_n 2 dL_law_631 rfl rfl ?_
      refine j_sload_n 0 dL_law_632 rfl rfl ?_
      refine j_iload_n 3 dL_law_633 rfl rfl ?_
      refine j_iconst (x := 1) dL_law_634 (by decide) ?_
      refine j_iadd dL_law_635 ?_
      refine j_sld dL_law_636 (fun x120 => ?_)
      refine j_callV (as := [.int x120]) (fun x => some (.int x.1)) (fun x => x.2) 9 18 dL_law_637 ml_RL_85 tg_X9_decks im_X9_decks se_X9_decks rfl (by decide) (fun x hx => kX9_decks κ.1 κ.2.1 q3.1 x120 q119.2 x hx) (Nat.le_of_ble_eq_true rfl) (by decide) rfl rfl (Nat.le_of_ble_eq_true rfl) (fun q121 => ?_)
      show xJ (iL_law nm) κ _ 640 [(0, .float 100), (1, .ref q1.1), (2, .ref q3.1), (3, .int s18.1)] [.int q121.1, .int q119.1] q121.2 _
      refine j_icmp_eq (tgt := 1078) dL_law_640 (by decide) (fun c122 => ?_) (fun c122 => ?_)
      · refine j_pick [0, 1, 2, 3] rfl ?_
        exact hj1078 (s18.1, q121.2)
      · refine j_exit (Sum.inr (Sum.inr (Sum.inr (Sum.inr (Sum.inr (Sum.inr (Sum.inr (Sum.inr (Sum.inr (Sum.inr (Sum.inr (Sum.inr (Sum.inr (Sum.inr (Sum.inr (Sum.inr (Sum.inl q121.2))))))))))))))))) ?_
        try dsimp only
        refine j_iconst (x := 0) dL_law_643 (by decide) ?_
        exact j_zret (0, q121.2) dL_law_644 rfl rfl (fun q => q)
    refine j_tabv (w := 17) (off := 613) (tgt := 645) dL_law_32 (by decide) (by decide) (by decide) (by decide) (fun c123 => ?_) (fun c123 => ?_)
    · refine j_aload_n 1 dL_law_645 rfl rfl ?_
      refine j_callV (as := []) (fun x => some (.int x.1)) (fun x => x.2) 8 12 dL_law_646 ml_RL_86 tg_X8_better im_X8_better se_X8_better rfl (by decide) (fun x hx => kX8_better κ.1 κ.2.1 q1.1 s18.2 x hx) (Nat.le_of_ble_eq_true rfl) (by decide) rfl rfl (Nat.le_of_ble_eq_true rfl) (fun q124 => ?_)
      show xJ (iL_law nm) κ _ 649 [(0, .float 100), (1, .ref q1.1), (2, .ref q3.1), (3, .int s18.1)] [.int q124.1] q124.2 _
      refine j_aload_n 2 dL_law_649 rfl rfl ?_
      refine j_callV (as := []) (fun x => some (.int x.1)) (fun x => x.2) 9 18 dL_law_650 ml_RL_89 tg_X9_better im_X9_better se_X9_better rfl (by decide) (fun x hx => kX9_better κ.1 κ.2.1 q3.1 q124.2 x hx) (Nat.le_of_ble_eq_true rfl) (by decide) rfl rfl (Nat.le_of_ble_eq_true rfl) (fun q125 => ?_)
      show xJ (iL_law nm) κ _ 653 [(0, .float 100), (1, .ref q1.1), (2, .ref q3.1), (3, .int s18.1)] [.int q125.1, .int q124.1] q125.2 _
      refine j_icmp_eq (tgt := 1078) dL_law_653 (by decide) (fun c126 => ?_) (fun c126 => ?_)
      · refine j_pick [0, 1, 2, 3] rfl ?_
        exact hj1078 (s18.1, q125.2)
      · refine j_exit (Sum.inr (Sum.inr (Sum.inr (Sum.inr (Sum.inr (Sum.inr (Sum.inr (Sum.inr (Sum.inr (Sum.inr (Sum.inr (Sum.inr (Sum.inr (Sum.inr (Sum.inr (Sum.inr (Sum.inr (Sum.inl q125.2)))))))))))))))))) ?_
        try dsimp only
        refine j_iconst (x := 0) dL_law_656 (by decide) ?_
        exact j_zret (0, q125.2) dL_law_657 rfl rfl (fun q => q)
    refine j_tabv (w := 18) (off := 626) (tgt := 658) dL_law_32 (by decide) (by decide) (by decide) (by decide) (fun c127 => ?_) (fun c127 => ?_)
    · refine j_aload_n 1 dL_law_658 rfl rfl ?_
      refine j_callV (as := []) (fun x => some (.int x.1)) (fun x => x.2) 8 12 dL_law_659 ml_RL_90 tg_X8_raise im_X8_raise se_X8_raise rfl (by decide) (fun x hx => kX8_raise κ.1 κ.2.1 q1.1 s18.2 x hx) (Nat.le_of_ble_eq_true rfl) (by decide) rfl rfl (Nat.le_of_ble_eq_true rfl) (fun q128 => ?_)
      show xJ (iL_law nm) κ _ 662 [(0, .float 100), (1, .ref q1.1), (2, .ref q3.1), (3, .int s18.1)] [.int q128.1] q128.2 _
      refine j_aload_n 2 dL_law_662 rfl rfl ?_
      refine j_callV (as := []) (fun x => some (.int x.1)) (fun x => x.2) 9 18 dL_law_663 ml_RL_93 tg_X9_raise im_X9_raise se_X9_raise rfl (by decide) (fun x hx => kX9_raise κ.1 κ.2.1 q3.1 q128.2 x hx) (Nat.le_of_ble_eq_true rfl) (by decide) rfl rfl (Nat.le_of_ble_eq_true rfl) (fun q129 => ?_)
      show xJ (iL_law nm) κ _ 666 [(0, .float 100), (1, .ref q1.1), (2, .ref q3.1), (3, .int s18.1)] [.int q129.1, .int q128.1] q129.2 _
      refine j_icmp_eq (tgt := 1078) dL_law_666 (by decide) (fun c130 => ?_) (fun c130 => ?_)
      · refine j_pick [0, 1, 2, 3] rfl ?_
        exact hj1078 (s18.1, q129.2)
      · refine j_exit (Sum.inr (Sum.inr (Sum.inr (Sum.inr (Sum.inr (Sum.inr (Sum.inr (Sum.inr (Sum.inr (Sum.inr (Sum.inr (Sum.inr (Sum.inr (Sum.inr (Sum.inr (Sum.inr (Sum.inr (Sum.inr (Sum.inl q129.2))))))))))))))))))) ?_
        try dsimp only
        refine j_iconst (x := 0) dL_law_669 (by decide) ?_
        exact j_zret (0, q129.2) dL_law_670 rfl rfl (fun q => q)
    refine j_tabv (w := 19) (off := 639) (tgt := 671) dL_law_32 (by decide) (by decide) (by decide) (by decide) (fun c131 => ?_) (fun c131 => ?_)
    · refine j_aload_n 1 dL_law_671 rfl rfl ?_
      refine j_sload_n 0 dL_law_672 rfl rfl ?_
      refine j_iload_n 3 dL_law_673 rfl rfl ?_
      refine j_iconst (x := 1) dL_law_674 (by decide) ?_
      refine j_iadd dL_law_675 ?_
      refine j_sld dL_law_676 (fun x132 => ?_)
      refine j_sload_n 0 dL_law_677 rfl rfl ?_
      refine j_iload_n 3 dL_law_678 rfl rfl ?_
      refine j_iconst (x := 2) dL_law_679 (by decide) ?_
      refine j_iadd dL_law_680 ?_
      refine j_sld dL_law_681 (fun x133 => ?_)
      refine j_sload_n 0 dL_law_682 rfl rfl ?_
      refine j_iload_n 3 dL_law_683 rfl rfl ?_
      refine j_iconst (x := 3) dL_law_684 (by decide) ?_
      refine j_iadd dL_law_685 ?_
      refine j_sld dL_law_686 (fun x134 => ?_)
      refine j_callV (as := [.int x132, .int x133, .int x134]) (fun x => some (.int x.1)) (fun x => x.2) 8 12 dL_law_687 ml_RL_94 tg_X8_upstairs im_X8_upstairs se_X8_upstairs rfl (by decide) (fun x hx => kX8_upstairs κ.1 κ.2.1 q1.1 x132 x133 x134 s18.2 x hx) (Nat.le_of_ble_eq_true rfl) (by decide) rfl rfl (Nat.le_of_ble_eq_true rfl) (fun q135 => ?_)
      show xJ (iL_law nm) κ _ 690 [(0, .float 100), (1, .ref q1.1), (2, .ref q3.1), (3, .int s18.1)] [.int q135.1] q135.2 _
      refine j_aload_n 2 dL_law_690 rfl rfl ?_
      refine j_sload_n 0 dL_law_691 rfl rfl ?_
      refine j_iload_n 3 dL_law_692 rfl rfl ?_
      refine j_iconst (x := 1) dL_law_693 (by decide) ?_
      refine j_iadd dL_law_694 ?_
      refine j_sld dL_law_695 (fun x136 => ?_)
      refine j_sload_n 0 dL_law_696 rfl rfl ?_
      refine j_iload_n 3 dL_law_697 rfl rfl ?_
      refine j_iconst (x := 2) dL_law_698 (by decide) ?_
      refine j_iadd dL_law_699 ?_
      refine j_sld dL_law_700 (fun x137 => ?_)
      refine j_sload_n 0 dL_law_701 rfl rfl ?_
      refine j_iload_n 3 dL_law_702 rfl rfl ?_
      refine j_iconst (x := 3) dL_law_703 (by decide) ?_
      refine j_iadd dL_law_704 ?_
      refine j_sld dL_law_705 (fun x138 => ?_)
      refine j_callV (as := [.int x136, .int x137, .int x138]) (fun x => some (.int x.1)) (fun x => x.2) 9 18 dL_law_706 ml_RL_97 tg_X9_upstairs im_X9_upstairs se_X9_upstairs rfl (by decide) (fun x hx => kX9_upstairs κ.1 κ.2.1 q3.1 x136 x137 x138 q135.2 x hx) (Nat.le_of_ble_eq_true rfl) (by decide) rfl rfl (Nat.le_of_ble_eq_true rfl) (fun q139 => ?_)
      show xJ (iL_law nm) κ _ 709 [(0, .float 100), (1, .ref q1.1), (2, .ref q3.1), (3, .int s18.1)] [.int q139.1, .int q135.1] q139.2 _
      refine j_icmp_eq (tgt := 1078) dL_law_709 (by decide) (fun c140 => ?_) (fun c140 => ?_)
      · refine j_pick [0, 1, 2, 3] rfl ?_
        exact hj1078 (s18.1, q139.2)
      · refine j_exit (Sum.inr (Sum.inr (Sum.inr (Sum.inr (Sum.inr (Sum.inr (Sum.inr (Sum.inr (Sum.inr (Sum.inr (Sum.inr (Sum.inr (Sum.inr (Sum.inr (Sum.inr (Sum.inr (Sum.inr (Sum.inr (Sum.inr (Sum.inl q139.2)))))))))))))))))))) ?_
        try dsimp only
        refine j_iconst (x := 0) dL_law_712 (by decide) ?_
        exact j_zret (0, q139.2) dL_law_713 rfl rfl (fun q => q)
    refine j_tabv (w := 20) (off := 682) (tgt := 714) dL_law_32 (by decide) (by decide) (by decide) (by decide) (fun c141 => ?_) (fun c141 => ?_)
    · refine j_aload_n 1 dL_law_714 rfl rfl ?_
      refine j_sload_n 0 dL_law_715 rfl rfl ?_
      refine j_iload_n 3 dL_law_716 rfl rfl ?_
      refine j_iconst (x := 1) dL_law_717 (by decide) ?_
      refine j_iadd dL_law_718 ?_
      refine j_sld dL_law_719 (fun x142 => ?_)
      refine j_sload_n 0 dL_law_720 rfl rfl ?_
      refine j_iload_n 3 dL_law_721 rfl rfl ?_
      refine j_iconst (x := 2) dL_law_722 (by decide) ?_
      refine j_iadd dL_law_723 ?_
      refine j_sld dL_law_724 (fun x143 => ?_)
      refine j_sload_n 0 dL_law_725 rfl rfl ?_
      refine j_iload_n 3 dL_law_726 rfl rfl ?_
      refine j_iconst (x := 3) dL_law_727 (by decide) ?_
      refine j_iadd dL_law_728 ?_
      refine j_sld dL_law_729 (fun x144 => ?_)
      refine j_sload_n 0 dL_law_730 rfl rfl ?_
      refine j_iload_n 3 dL_law_731 rfl rfl ?_
      refine j_iconst (x := 4) dL_law_732 (by decide) ?_
      refine j_iadd dL_law_733 ?_
      refine j_sld dL_law_734 (fun x145 => ?_)
      refine j_callV (as := [.int x142, .int x143, .int x144, .int x145]) (fun x => some (.int x.1)) (fun x => x.2) 8 12 dL_law_735 ml_RL_98 tg_X8_note im_X8_note se_X8_note rfl (by decide) (fun x hx => kX8_note κ.1 κ.2.1 q1.1 x142 x143 x144 x145 s18.2 x hx) (Nat.le_of_ble_eq_true rfl) (by decide) rfl rfl (Nat.le_of_ble_eq_true rfl) (fun q146 => ?_)
      show xJ (iL_law nm) κ _ 738 [(0, .float 100), (1, .ref q1.1), (2, .ref q3.1), (3, .int s18.1)] [.int q146.1] q146.2 _
      refine j_aload_n 2 dL_law_738 rfl rfl ?_
      refine j_sload_n 0 dL_law_739 rfl rfl ?_
      refine j_iload_n 3 dL_law_740 rfl rfl ?_
      refine j_iconst (x := 1) dL_law_741 (by decide) ?_
      refine j_iadd dL_law_742 ?_
      refine j_sld dL_law_743 (fun x147 => ?_)
      refine j_sload_n 0 dL_law_744 rfl rfl ?_
      refine j_iload_n 3 dL_law_745 rfl rfl ?_
      refine j_iconst (x := 2) dL_law_746 (by decide) ?_
      refine j_iadd dL_law_747 ?_
      refine j_sld dL_law_748 (fun x148 => ?_)
      refine j_sload_n 0 dL_law_749 rfl rfl ?_
      refine j_iload_n 3 dL_law_750 rfl rfl ?_
      refine j_iconst (x := 3) dL_law_751 (by decide) ?_
      refine j_iadd dL_law_752 ?_
      refine j_sld dL_law_753 (fun x149 => ?_)
      refine j_sload_n 0 dL_law_754 rfl rfl ?_
      refine j_iload_n 3 dL_law_755 rfl rfl ?_
      refine j_iconst (x := 4) dL_law_756 (by decide) ?_
      refine j_iadd dL_law_757 ?_
      refine j_sld dL_law_758 (fun x150 => ?_)
      refine j_callV (as := [.int x147, .int x148, .int x149, .int x150]) (fun x => some (.int x.1)) (fun x => x.2) 9 18 dL_law_759 ml_RL_101 tg_X9_note im_X9_note se_X9_note rfl (by decide) (fun x hx => kX9_note κ.1 κ.2.1 q3.1 x147 x148 x149 x150 q146.2 x hx) (Nat.le_of_ble_eq_true rfl) (by decide) rfl rfl (Nat.le_of_ble_eq_true rfl) (fun q151 => ?_)
      show xJ (iL_law nm) κ _ 762 [(0, .float 100), (1, .ref q1.1), (2, .ref q3.1), (3, .int s18.1)] [.int q151.1, .int q146.1] q151.2 _
      refine j_icmp_eq (tgt := 1078) dL_law_762 (by decide) (fun c152 => ?_) (fun c152 => ?_)
      · refine j_pick [0, 1, 2, 3] rfl ?_
        exact hj1078 (s18.1, q151.2)
      · refine j_exit (Sum.inr (Sum.inr (Sum.inr (Sum.inr (Sum.inr (Sum.inr (Sum.inr (Sum.inr (Sum.inr (Sum.inr (Sum.inr (Sum.inr (Sum.inr (Sum.inr (Sum.inr (Sum.inr (Sum.inr (Sum.inr (Sum.inr (Sum.inr (Sum.inl q151.2))))))))))))))))))))) ?_
        try dsimp only
        refine j_iconst (x := 0) dL_law_765 (by decide) ?_
        exact j_zret (0, q151.2) dL_law_766 rfl rfl (fun q => q)
    refine j_tabv (w := 21) (off := 735) (tgt := 767) dL_law_32 (by decide) (by decide) (by decide) (by decide) (fun c153 => ?_) (fun c153 => ?_)
    · refine j_aload_n 1 dL_law_767 rfl rfl ?_
      refine j_callV (as := []) (fun x => some (.int x.1)) (fun x => x.2) 8 12 dL_law_768 ml_RL_102 tg_X8_forget im_X8_forget se_X8_forget rfl (by decide) (fun x hx => kX8_forget κ.1 κ.2.1 q1.1 s18.2 x hx) (Nat.le_of_ble_eq_true rfl) (by decide) rfl rfl (Nat.le_of_ble_eq_true rfl) (fun q154 => ?_)
      show xJ (iL_law nm) κ _ 771 [(0, .float 100), (1, .ref q1.1), (2, .ref q3.1), (3, .int s18.1)] [.int q154.1] q154.2 _
      refine j_aload_n 2 dL_law_771 rfl rfl ?_
      refine j_callV (as := []) (fun x => some (.int x.1)) (fun x => x.2) 9 18 dL_law_772 ml_RL_105 tg_X9_forget im_X9_forget se_X9_forget rfl (by decide) (fun x hx => kX9_forget κ.1 κ.2.1 q3.1 q154.2 x hx) (Nat.le_of_ble_eq_true rfl) (by decide) rfl rfl (Nat.le_of_ble_eq_true rfl) (fun q155 => ?_)
      show xJ (iL_law nm) κ _ 775 [(0, .float 100), (1, .ref q1.1), (2, .ref q3.1), (3, .int s18.1)] [.int q155.1, .int q154.1] q155.2 _
      refine j_icmp_eq (tgt := 1078) dL_law_775 (by decide) (fun c156 => ?_) (fun c156 => ?_)
      · refine j_pick [0, 1, 2, 3] rfl ?_
        exact hj1078 (s18.1, q155.2)
      · refine j_exit (Sum.inr (Sum.inr (Sum.inr (Sum.inr (Sum.inr (Sum.inr (Sum.inr (Sum.inr (Sum.inr (Sum.inr (Sum.inr (Sum.inr (Sum.inr (Sum.inr (Sum.inr (Sum.inr (Sum.inr (Sum.inr (Sum.inr (Sum.inr (Sum.inr (Sum.inl q155.2)))))))))))))))))))))) ?_
        try dsimp only
        refine j_iconst (x := 0) dL_law_778 (by decide) ?_
        exact j_zret (0, q155.2) dL_law_779 rfl rfl (fun q => q)
    refine j_tabv (w := 22) (off := 748) (tgt := 780) dL_law_32 (by decide) (by decide) (by decide) (by decide) (fun c157 => ?_) (fun c157 => ?_)
    · refine j_aload_n 1 dL_law_780 rfl rfl ?_
      refine j_sload_n 0 dL_law_781 rfl rfl ?_
      refine j_iload_n 3 dL_law_782 rfl rfl ?_
      refine j_iconst (x := 1) dL_law_783 (by decide) ?_
      refine j_iadd dL_law_784 ?_
      refine j_sld dL_law_785 (fun x158 => ?_)
      refine j_callV (as := [.int x158]) (fun x => some (.int x.1)) (fun x => x.2) 8 12 dL_law_786 ml_RL_106 tg_X8_is im_X8_is se_X8_is rfl (by decide) (fun x hx => kX8_is κ.1 κ.2.1 q1.1 x158 s18.2 x hx) (Nat.le_of_ble_eq_true rfl) (by decide) rfl rfl (Nat.le_of_ble_eq_true rfl) (fun q159 => ?_)
      show xJ (iL_law nm) κ _ 789 [(0, .float 100), (1, .ref q1.1), (2, .ref q3.1), (3, .int s18.1)] [.int q159.1] q159.2 _
      refine j_aload_n 2 dL_law_789 rfl rfl ?_
      refine j_sload_n 0 dL_law_790 rfl rfl ?_
      refine j_iload_n 3 dL_law_791 rfl rfl ?_
      refine j_iconst (x := 1) dL_law_792 (by decide) ?_
      refine j_iadd dL_law_793 ?_
      refine j_sld dL_law_794 (fun x160 => ?_)
      refine j_callV (as := [.int x160]) (fun x => some (.int x.1)) (fun x => x.2) 9 18 dL_law_795 ml_RL_109 tg_X9_is im_X9_is se_X9_is rfl (by decide) (fun x hx => kX9_is κ.1 κ.2.1 q3.1 x160 q159.2 x hx) (Nat.le_of_ble_eq_true rfl) (by decide) rfl rfl (Nat.le_of_ble_eq_true rfl) (fun q161 => ?_)
      show xJ (iL_law nm) κ _ 798 [(0, .float 100), (1, .ref q1.1), (2, .ref q3.1), (3, .int s18.1)] [.int q161.1, .int q159.1] q161.2 _
      refine j_icmp_eq (tgt := 1078) dL_law_798 (by decide) (fun c162 => ?_) (fun c162 => ?_)
      · refine j_pick [0, 1, 2, 3] rfl ?_
        exact hj1078 (s18.1, q161.2)
      · refine j_exit (Sum.inr (Sum.inr (Sum.inr (Sum.inr (Sum.inr (Sum.inr (Sum.inr (Sum.inr (Sum.inr (Sum.inr (Sum.inr (Sum.inr (Sum.inr (Sum.inr (Sum.inr (Sum.inr (Sum.inr (Sum.inr (Sum.inr (Sum.inr (Sum.inr (Sum.inr (Sum.inl q161.2))))))))))))))))))))))) ?_
        try dsimp only
        refine j_iconst (x := 0) dL_law_801 (by decide) ?_
        exact j_zret (0, q161.2) dL_law_802 rfl rfl (fun q => q)
    refine j_tabv (w := 23) (off := 771) (tgt := 803) dL_law_32 (by decide) (by decide) (by decide) (by decide) (fun c163 => ?_) (fun c163 => ?_)
    · refine j_aload_n 1 dL_law_803 rfl rfl ?_
      refine j_sload_n 0 dL_law_804 rfl rfl ?_
      refine j_iload_n 3 dL_law_805 rfl rfl ?_
      refine j_iconst (x := 1) dL_law_806 (by decide) ?_
      refine j_iadd dL_law_807 ?_
      refine j_sld dL_law_808 (fun x164 => ?_)
      refine j_callV (as := [.int x164]) (fun x => some (.int x.1)) (fun x => x.2) 8 12 dL_law_809 ml_RL_110 tg_X8_look im_X8_look se_X8_look rfl (by decide) (fun x hx => kX8_look κ.1 κ.2.1 q1.1 x164 s18.2 x hx) (Nat.le_of_ble_eq_true rfl) (by decide) rfl rfl (Nat.le_of_ble_eq_true rfl) (fun q165 => ?_)
      show xJ (iL_law nm) κ _ 812 [(0, .float 100), (1, .ref q1.1), (2, .ref q3.1), (3, .int s18.1)] [.int q165.1] q165.2 _
      refine j_aload_n 2 dL_law_812 rfl rfl ?_
      refine j_sload_n 0 dL_law_813 rfl rfl ?_
      refine j_iload_n 3 dL_law_814 rfl rfl ?_
      refine j_iconst (x := 1) dL_law_815 (by decide) ?_
      refine j_iadd dL_law_816 ?_
      refine j_sld dL_law_817 (fun x166 => ?_)
      refine j_callV (as := [.int x166]) (fun x => some (.int x.1)) (fun x => x.2) 9 18 dL_law_818 ml_RL_113 tg_X9_look im_X9_look se_X9_look rfl (by decide) (fun x hx => kX9_look κ.1 κ.2.1 q3.1 x166 q165.2 x hx) (Nat.le_of_ble_eq_true rfl) (by decide) rfl rfl (Nat.le_of_ble_eq_true rfl) (fun q167 => ?_)
      show xJ (iL_law nm) κ _ 821 [(0, .float 100), (1, .ref q1.1), (2, .ref q3.1), (3, .int s18.1)] [.int q167.1, .int q165.1] q167.2 _
      refine j_icmp_eq (tgt := 1078) dL_law_821 (by decide) (fun c168 => ?_) (fun c168 => ?_)
      · refine j_pick [0, 1, 2, 3] rfl ?_
        exact hj1078 (s18.1, q167.2)
      · refine j_exit (Sum.inr (Sum.inr (Sum.inr (Sum.inr (Sum.inr (Sum.inr (Sum.inr (Sum.inr (Sum.inr (Sum.inr (Sum.inr (Sum.inr (Sum.inr (Sum.inr (Sum.inr (Sum.inr (Sum.inr (Sum.inr (Sum.inr (Sum.inr (Sum.inr (Sum.inr (Sum.inr (Sum.inl q167.2)))))))))))))))))))))))) ?_
        try dsimp only
        refine j_iconst (x := 0) dL_law_824 (by decide) ?_
        exact j_zret (0, q167.2) dL_law_825 rfl rfl (fun q => q)
    refine j_tabv (w := 24) (off := 794) (tgt := 826) dL_law_32 (by decide) (by decide) (by decide) (by decide) (fun c169 => ?_) (fun c169 => ?_)
    · refine j_aload_n 1 dL_law_826 rfl rfl ?_
      refine j_sload_n 0 dL_law_827 rfl rfl ?_
      refine j_iload_n 3 dL_law_828 rfl rfl ?_
      refine j_iconst (x := 1) dL_law_829 (by decide) ?_
      refine j_iadd dL_law_830 ?_
      refine j_sld dL_law_831 (fun x170 => ?_)
      refine j_callV (as := [.int x170]) (fun x => some (.int x.1)) (fun x => x.2) 8 12 dL_law_832 ml_RL_114 tg_X8_fare im_X8_fare se_X8_fare rfl (by decide) (fun x hx => kX8_fare κ.1 κ.2.1 q1.1 x170 s18.2 x hx) (Nat.le_of_ble_eq_true rfl) (by decide) rfl rfl (Nat.le_of_ble_eq_true rfl) (fun q171 => ?_)
      show xJ (iL_law nm) κ _ 835 [(0, .float 100), (1, .ref q1.1), (2, .ref q3.1), (3, .int s18.1)] [.int q171.1] q171.2 _
      refine j_aload_n 2 dL_law_835 rfl rfl ?_
      refine j_sload_n 0 dL_law_836 rfl rfl ?_
      refine j_iload_n 3 dL_law_837 rfl rfl ?_
      refine j_iconst (x := 1) dL_law_838 (by decide) ?_
      refine j_iadd dL_law_839 ?_
      refine j_sld dL_law_840 (fun x172 => ?_)
      refine j_callV (as := [.int x172]) (fun x => some (.int x.1)) (fun x => x.2) 9 18 dL_law_841 ml_RL_117 tg_X9_fare im_X9_fare se_X9_fare rfl (by decide) (fun x hx => kX9_fare κ.1 κ.2.1 q3.1 x172 q171.2 x hx) (Nat.le_of_ble_eq_true rfl) (by decide) rfl rfl (Nat.le_of_ble_eq_true rfl) (fun q173 => ?_)
      show xJ (iL_law nm) κ _ 844 [(0, .float 100), (1, .ref q1.1), (2, .ref q3.1), (3, .int s18.1)] [.int q173.1, .int q171.1] q173.2 _
      refine j_icmp_eq (tgt := 1078) dL_law_844 (by decide) (fun c174 => ?_) (fun c174 => ?_)
      · refine j_pick [0, 1, 2, 3] rfl ?_
        exact hj1078 (s18.1, q173.2)
      · refine j_exit (Sum.inr (Sum.inr (Sum.inr (Sum.inr (Sum.inr (Sum.inr (Sum.inr (Sum.inr (Sum.inr (Sum.inr (Sum.inr (Sum.inr (Sum.inr (Sum.inr (Sum.inr (Sum.inr (Sum.inr (Sum.inr (Sum.inr (Sum.inr (Sum.inr (Sum.inr (Sum.inr (Sum.inr (Sum.inl q173.2))))))))))))))))))))))))) ?_
        try dsimp only
        refine j_iconst (x := 0) dL_law_847 (by decide) ?_
        exact j_zret (0, q173.2) dL_law_848 rfl rfl (fun q => q)
    refine j_tabv (w := 25) (off := 817) (tgt := 849) dL_law_32 (by decide) (by decide) (by decide) (by decide) (fun c175 => ?_) (fun c175 => ?_)
    · refine j_aload_n 1 dL_law_849 rfl rfl ?_
      refine j_sload_n 0 dL_law_850 rfl rfl ?_
      refine j_iload_n 3 dL_law_851 rfl rfl ?_
      refine j_iconst (x := 1) dL_law_852 (by decide) ?_
      refine j_iadd dL_law_853 ?_
      refine j_sld dL_law_854 (fun x176 => ?_)
      refine j_sload_n 0 dL_law_855 rfl rfl ?_
      refine j_iload_n 3 dL_law_856 rfl rfl ?_
      refine j_iconst (x := 2) dL_law_857 (by decide) ?_
      refine j_iadd dL_law_858 ?_
      refine j_sld dL_law_859 (fun x177 => ?_)
      refine j_sload_n 0 dL_law_860 rfl rfl ?_
      refine j_iload_n 3 dL_law_861 rfl rfl ?_
      refine j_iconst (x := 3) dL_law_862 (by decide) ?_
      refine j_iadd dL_law_863 ?_
      refine j_sld dL_law_864 (fun x178 => ?_)
      refine j_callV (as := [.int x176, .int x177, .int x178]) (fun x => some (.int x.1)) (fun x => x.2) 8 12 dL_law_865 ml_RL_118 tg_X8_two im_X8_two se_X8_two rfl (by decide) (fun x hx => kX8_two κ.1 κ.2.1 q1.1 x176 x177 x178 s18.2 x hx) (Nat.le_of_ble_eq_true rfl) (by decide) rfl rfl (Nat.le_of_ble_eq_true rfl) (fun q179 => ?_)
      show xJ (iL_law nm) κ _ 868 [(0, .float 100), (1, .ref q1.1), (2, .ref q3.1), (3, .int s18.1)] [.int q179.1] q179.2 _
      refine j_aload_n 2 dL_law_868 rfl rfl ?_
      refine j_sload_n 0 dL_law_869 rfl rfl ?_
      refine j_iload_n 3 dL_law_870 rfl rfl ?_
      refine j_iconst (x := 1) dL_law_871 (by decide) ?_
      refine j_iadd dL_law_872 ?_
      refine j_sld dL_law_873 (fun x180 => ?_)
      refine j_sload_n 0 dL_law_874 rfl rfl ?_
      refine j_iload_n 3 dL_law_875 rfl rfl ?_
      refine j_iconst (x := 2) dL_law_876 (by decide) ?_
      refine j_iadd dL_law_877 ?_
      refine j_sld dL_law_878 (fun x181 => ?_)
      refine j_sload_n 0 dL_law_879 rfl rfl ?_
      refine j_iload_n 3 dL_law_880 rfl rfl ?_
      refine j_iconst (x := 3) dL_law_881 (by decide) ?_
      refine j_iadd dL_law_882 ?_
      refine j_sld dL_law_883 (fun x182 => ?_)
      refine j_callV (as := [.int x180, .int x181, .int x182]) (fun x => some (.int x.1)) (fun x => x.2) 9 18 dL_law_884 ml_RL_121 tg_X9_two im_X9_two se_X9_two rfl (by decide) (fun x hx => kX9_two κ.1 κ.2.1 q3.1 x180 x181 x182 q179.2 x hx) (Nat.le_of_ble_eq_true rfl) (by decide) rfl rfl (Nat.le_of_ble_eq_true rfl) (fun q183 => ?_)
      show xJ (iL_law nm) κ _ 887 [(0, .float 100), (1, .ref q1.1), (2, .ref q3.1), (3, .int s18.1)] [.int q183.1, .int q179.1] q183.2 _
      refine j_icmp_eq (tgt := 1078) dL_law_887 (by decide) (fun c184 => ?_) (fun c184 => ?_)
      · refine j_pick [0, 1, 2, 3] rfl ?_
        exact hj1078 (s18.1, q183.2)
      · refine j_exit (Sum.inr (Sum.inr (Sum.inr (Sum.inr (Sum.inr (Sum.inr (Sum.inr (Sum.inr (Sum.inr (Sum.inr (Sum.inr (Sum.inr (Sum.inr (Sum.inr (Sum.inr (Sum.inr (Sum.inr (Sum.inr (Sum.inr (Sum.inr (Sum.inr (Sum.inr (Sum.inr (Sum.inr (Sum.inr (Sum.inl q183.2)))))))))))))))))))))))))) ?_
        try dsimp only
        refine j_iconst (x := 0) dL_law_890 (by decide) ?_
        exact j_zret (0, q183.2) dL_law_891 rfl rfl (fun q => q)
    refine j_tabv (w := 26) (off := 860) (tgt := 892) dL_law_32 (by decide) (by decide) (by decide) (by decide) (fun c185 => ?_) (fun c185 => ?_)
    · refine j_aload_n 1 dL_law_892 rfl rfl ?_
      refine j_sload_n 0 dL_law_893 rfl rfl ?_
      refine j_iload_n 3 dL_law_894 rfl rfl ?_
      refine j_iconst (x := 1) dL_law_895 (by decide) ?_
      refine j_iadd dL_law_896 ?_
      refine j_sld dL_law_897 (fun x186 => ?_)
      refine j_callV (as := [.int x186]) (fun x => some (.int x.1)) (fun x => x.2) 8 12 dL_law_898 ml_RL_122 tg_X8_bell im_X8_bell se_X8_bell rfl (by decide) (fun x hx => kX8_bell κ.1 κ.2.1 q1.1 x186 s18.2 x hx) (Nat.le_of_ble_eq_true rfl) (by decide) rfl rfl (Nat.le_of_ble_eq_true rfl) (fun q187 => ?_)
      show xJ (iL_law nm) κ _ 901 [(0, .float 100), (1, .ref q1.1), (2, .ref q3.1), (3, .int s18.1)] [.int q187.1] q187.2 _
      refine j_aload_n 2 dL_law_901 rfl rfl ?_
      refine j_sload_n 0 dL_law_902 rfl rfl ?_
      refine j_iload_n 3 dL_law_903 rfl rfl ?_
      refine j_iconst (x := 1) dL_law_904 (by decide) ?_
      refine j_iadd dL_law_905 ?_
      refine j_sld dL_law_906 (fun x188 => ?_)
      refine j_callV (as := [.int x188]) (fun x => some (.int x.1)) (fun x => x.2) 9 18 dL_law_907 ml_RL_125 tg_X9_bell im_X9_bell se_X9_bell rfl (by decide) (fun x hx => kX9_bell κ.1 κ.2.1 q3.1 x188 q187.2 x hx) (Nat.le_of_ble_eq_true rfl) (by decide) rfl rfl (Nat.le_of_ble_eq_true rfl) (fun q189 => ?_)
      show xJ (iL_law nm) κ _ 910 [(0, .float 100), (1, .ref q1.1), (2, .ref q3.1), (3, .int s18.1)] [.int q189.1, .int q187.1] q189.2 _
      refine j_icmp_eq (tgt := 1078) dL_law_910 (by decide) (fun c190 => ?_) (fun c190 => ?_)
      · refine j_pick [0, 1, 2, 3] rfl ?_
        exact hj1078 (s18.1, q189.2)
      · refine j_exit (Sum.inr (Sum.inr (Sum.inr (Sum.inr (Sum.inr (Sum.inr (Sum.inr (Sum.inr (Sum.inr (Sum.inr (Sum.inr (Sum.inr (Sum.inr (Sum.inr (Sum.inr (Sum.inr (Sum.inr (Sum.inr (Sum.inr (Sum.inr (Sum.inr (Sum.inr (Sum.inr (Sum.inr (Sum.inr (Sum.inr (Sum.inl q189.2))))))))))))))))))))))))))) ?_
        try dsimp only
        refine j_iconst (x := 0) dL_law_913 (by decide) ?_
        exact j_zret (0, q189.2) dL_law_914 rfl rfl (fun q => q)
    refine j_tabv (w := 27) (off := 883) (tgt := 915) dL_law_32 (by decide) (by decide) (by decide) (by decide) (fun c191 => ?_) (fun c191 => ?_)
    · refine j_aload_n 1 dL_law_915 rfl rfl ?_
      refine j_sload_n 0 dL_law_916 rfl rfl ?_
      refine j_iload_n 3 dL_law_917 rfl rfl ?_
      refine j_iconst (x := 1) dL_law_918 (by decide) ?_
      refine j_iadd dL_law_919 ?_
      refine j_sld dL_law_920 (fun x192 => ?_)
      refine j_sload_n 0 dL_law_921 rfl rfl ?_
      refine j_iload_n 3 dL_law_922 rfl rfl ?_
      refine j_iconst (x := 2) dL_law_923 (by decide) ?_
      refine j_iadd dL_law_924 ?_
      refine j_sld dL_law_925 (fun x193 => ?_)
      refine j_callV (as := [.int x192, .int x193]) (fun x => some (.int x.1)) (fun x => x.2) 8 12 dL_law_926 ml_RL_126 tg_X8_days im_X8_days se_X8_days rfl (by decide) (fun x hx => kX8_days κ.1 κ.2.1 q1.1 x192 x193 s18.2 x hx) (Nat.le_of_ble_eq_true rfl) (by decide) rfl rfl (Nat.le_of_ble_eq_true rfl) (fun q194 => ?_)
      show xJ (iL_law nm) κ _ 929 [(0, .float 100), (1, .ref q1.1), (2, .ref q3.1), (3, .int s18.1)] [.int q194.1] q194.2 _
      refine j_aload_n 2 dL_law_929 rfl rfl ?_
      refine j_sload_n 0 dL_law_930 rfl rfl ?_
      refine j_iload_n 3 dL_law_931 rfl rfl ?_
      refine j_iconst (x := 1) dL_law_932 (by decide) ?_
      refine j_iadd dL_law_933 ?_
      refine j_sld dL_law_934 (fun x195 => ?_)
      refine j_sload_n 0 dL_law_935 rfl rfl ?_
      refine j_iload_n 3 dL_law_936 rfl rfl ?_
      refine j_iconst (x := 2) dL_law_937 (by decide) ?_
      refine j_iadd dL_law_938 ?_
      refine j_sld dL_law_939 (fun x196 => ?_)
      refine j_callV (as := [.int x195, .int x196]) (fun x => some (.int x.1)) (fun x => x.2) 9 18 dL_law_940 ml_RL_129 tg_X9_days im_X9_days se_X9_days rfl (by decide) (fun x hx => kX9_days κ.1 κ.2.1 q3.1 x195 x196 q194.2 x hx) (Nat.le_of_ble_eq_true rfl) (by decide) rfl rfl (Nat.le_of_ble_eq_true rfl) (fun q197 => ?_)
      show xJ (iL_law nm) κ _ 943 [(0, .float 100), (1, .ref q1.1), (2, .ref q3.1), (3, .int s18.1)] [.int q197.1, .int q194.1] q197.2 _
      refine j_icmp_eq (tgt := 1078) dL_law_943 (by decide) (fun c198 => ?_) (fun c198 => ?_)
      · refine j_pick [0, 1, 2, 3] rfl ?_
        exact hj1078 (s18.1, q197.2)
      · refine j_exit (Sum.inr (Sum.inr (Sum.inr (Sum.inr (Sum.inr (Sum.inr (Sum.inr (Sum.inr (Sum.inr (Sum.inr (Sum.inr (Sum.inr (Sum.inr (Sum.inr (Sum.inr (Sum.inr (Sum.inr (Sum.inr (Sum.inr (Sum.inr (Sum.inr (Sum.inr (Sum.inr (Sum.inr (Sum.inr (Sum.inr (Sum.inr (Sum.inl q197.2)))))))))))))))))))))))))))) ?_
        try dsimp only
        refine j_iconst (x := 0) dL_law_946 (by decide) ?_
        exact j_zret (0, q197.2) dL_law_947 rfl rfl (fun q => q)
    refine j_tabv (w := 28) (off := 916) (tgt := 948) dL_law_32 (by decide) (by decide) (by decide) (by decide) (fun c199 => ?_) (fun c199 => ?_)
    · refine j_aload_n 1 dL_law_948 rfl rfl ?_
      refine j_sload_n 0 dL_law_949 rfl rfl ?_
      refine j_iload_n 3 dL_law_950 rfl rfl ?_
      refine j_iconst (x := 1) dL_law_951 (by decide) ?_
      refine j_iadd dL_law_952 ?_
      refine j_sld dL_law_953 (fun x200 => ?_)
      refine j_callV (as := [.int x200]) (fun x => some (.long x.1)) (fun x => x.2) 8 12 dL_law_954 ml_RL_130 tg_X8_part im_X8_part se_X8_part rfl (by decide) (fun x hx => kX8_part κ.1 κ.2.1 q1.1 x200 s18.2 x hx) (Nat.le_of_ble_eq_true rfl) (by decide) rfl rfl (Nat.le_of_ble_eq_true rfl) (fun q201 => ?_)
      show xJ (iL_law nm) κ _ 957 [(0, .float 100), (1, .ref q1.1), (2, .ref q3.1), (3, .int s18.1)] [.long q201.1] q201.2 _
      refine j_aload_n 2 dL_law_957 rfl rfl ?_
      refine j_sload_n 0 dL_law_958 rfl rfl ?_
      refine j_iload_n 3 dL_law_959 rfl rfl ?_
      refine j_iconst (x := 1) dL_law_960 (by decide) ?_
      refine j_iadd dL_law_961 ?_
      refine j_sld dL_law_962 (fun x202 => ?_)
      refine j_callV (as := [.int x202]) (fun x => some (.long x.1)) (fun x => x.2) 9 18 dL_law_963 ml_RL_134 tg_X9_part im_X9_part se_X9_part rfl (by decide) (fun x hx => kX9_part κ.1 κ.2.1 q3.1 x202 q201.2 x hx) (Nat.le_of_ble_eq_true rfl) (by decide) rfl rfl (Nat.le_of_ble_eq_true rfl) (fun q203 => ?_)
      show xJ (iL_law nm) κ _ 966 [(0, .float 100), (1, .ref q1.1), (2, .ref q3.1), (3, .int s18.1)] [.long q203.1, .long q201.1] q203.2 _
      refine j_lcmp dL_law_966 ?_
      refine j_if_eq (tgt := 1078) dL_law_967 (by decide) (fun c204 => ?_) (fun c204 => ?_)
      · refine j_pick [0, 1, 2, 3] rfl ?_
        exact hj1078 (s18.1, q203.2)
      · refine j_exit (Sum.inr (Sum.inr (Sum.inr (Sum.inr (Sum.inr (Sum.inr (Sum.inr (Sum.inr (Sum.inr (Sum.inr (Sum.inr (Sum.inr (Sum.inr (Sum.inr (Sum.inr (Sum.inr (Sum.inr (Sum.inr (Sum.inr (Sum.inr (Sum.inr (Sum.inr (Sum.inr (Sum.inr (Sum.inr (Sum.inr (Sum.inr (Sum.inr (Sum.inl q203.2))))))))))))))))))))))))))))) ?_
        try dsimp only
        refine j_iconst (x := 0) dL_law_970 (by decide) ?_
        exact j_zret (0, q203.2) dL_law_971 rfl rfl (fun q => q)
    refine j_tabv (w := 29) (off := 940) (tgt := 972) dL_law_32 (by decide) (by decide) (by decide) (by decide) (fun c205 => ?_) (fun c205 => ?_)
    · refine j_aload_n 1 dL_law_972 rfl rfl ?_
      refine j_sload_n 0 dL_law_973 rfl rfl ?_
      refine j_iload_n 3 dL_law_974 rfl rfl ?_
      refine j_iconst (x := 1) dL_law_975 (by decide) ?_
      refine j_iadd dL_law_976 ?_
      refine j_sld dL_law_977 (fun x206 => ?_)
      refine j_callV (as := [.int x206]) (fun x => some (.int x.1)) (fun x => x.2) 8 12 dL_law_978 ml_RL_135 tg_X8_image im_X8_image se_X8_image rfl (by decide) (fun x hx => kX8_image κ.1 κ.2.1 q1.1 x206 s18.2 x hx) (Nat.le_of_ble_eq_true rfl) (by decide) rfl rfl (Nat.le_of_ble_eq_true rfl) (fun q207 => ?_)
      show xJ (iL_law nm) κ _ 981 [(0, .float 100), (1, .ref q1.1), (2, .ref q3.1), (3, .int s18.1)] [.int q207.1] q207.2 _
      refine j_aload_n 2 dL_law_981 rfl rfl ?_
      refine j_sload_n 0 dL_law_982 rfl rfl ?_
      refine j_iload_n 3 dL_law_983 rfl rfl ?_
      refine j_iconst (x := 1) dL_law_984 (by decide) ?_
      refine j_iadd dL_law_985 ?_
      refine j_sld dL_law_986 (fun x208 => ?_)
      refine j_callV (as := [.int x208]) (fun x => some (.int x.1)) (fun x => x.2) 9 18 dL_law_987 ml_RL_138 tg_X9_image im_X9_image se_X9_image rfl (by decide) (fun x hx => kX9_image κ.1 κ.2.1 q3.1 x208 q207.2 x hx) (Nat.le_of_ble_eq_true rfl) (by decide) rfl rfl (Nat.le_of_ble_eq_true rfl) (fun q209 => ?_)
      show xJ (iL_law nm) κ _ 990 [(0, .float 100), (1, .ref q1.1), (2, .ref q3.1), (3, .int s18.1)] [.int q209.1, .int q207.1] q209.2 _
      refine j_icmp_eq (tgt := 1078) dL_law_990 (by decide) (fun c210 => ?_) (fun c210 => ?_)
      · refine j_pick [0, 1, 2, 3] rfl ?_
        exact hj1078 (s18.1, q209.2)
      · refine j_exit (Sum.inr (Sum.inr (Sum.inr (Sum.inr (Sum.inr (Sum.inr (Sum.inr (Sum.inr (Sum.inr (Sum.inr (Sum.inr (Sum.inr (Sum.inr (Sum.inr (Sum.inr (Sum.inr (Sum.inr (Sum.inr (Sum.inr (Sum.inr (Sum.inr (Sum.inr (Sum.inr (Sum.inr (Sum.inr (Sum.inr (Sum.inr (Sum.inr (Sum.inr (Sum.inl q209.2)))))))))))))))))))))))))))))) ?_
        try dsimp only
        refine j_iconst (x := 0) dL_law_993 (by decide) ?_
        exact j_zret (0, q209.2) dL_law_994 rfl rfl (fun q => q)
    refine j_tabv (w := 30) (off := 963) (tgt := 995) dL_law_32 (by decide) (by decide) (by decide) (by decide) (fun c211 => ?_) (fun c211 => ?_)
    · refine j_aload_n 1 dL_law_995 rfl rfl ?_
      refine j_sload_n 0 dL_law_996 rfl rfl ?_
      refine j_iload_n 3 dL_law_997 rfl rfl ?_
      refine j_iconst (x := 1) dL_law_998 (by decide) ?_
      refine j_iadd dL_law_999 ?_
      refine j_sld dL_law_1000 (fun x212 => ?_)
      refine j_callV (as := [.int x212]) (fun x => some (.int x.1)) (fun x => x.2) 8 12 dL_law_1001 ml_RL_139 tg_X8_from im_X8_from se_X8_from rfl (by decide) (fun x hx => kX8_from κ.1 κ.2.1 q1.1 x212 s18.2 x hx) (Nat.le_of_ble_eq_true rfl) (by decide) rfl rfl (Nat.le_of_ble_eq_true rfl) (fun q213 => ?_)
      show xJ (iL_law nm) κ _ 1004 [(0, .float 100), (1, .ref q1.1), (2, .ref q3.1), (3, .int s18.1)] [.int q213.1] q213.2 _
      refine j_aload_n 2 dL_law_1004 rfl rfl ?_
      refine j_sload_n 0 dL_law_1005 rfl rfl ?_
      refine j_iload_n 3 dL_law_1006 rfl rfl ?_
      refine j_iconst (x := 1) dL_law_1007 (by decide) ?_
      refine j_iadd dL_law_1008 ?_
      refine j_sld dL_law_1009 (fun x214 => ?_)
      refine j_callV (as := [.int x214]) (fun x => some (.int x.1)) (fun x => x.2) 9 18 dL_law_1010 ml_RL_142 tg_X9_from im_X9_from se_X9_from rfl (by decide) (fun x hx => kX9_from κ.1 κ.2.1 q3.1 x214 q213.2 x hx) (Nat.le_of_ble_eq_true rfl) (by decide) rfl rfl (Nat.le_of_ble_eq_true rfl) (fun q215 => ?_)
      show xJ (iL_law nm) κ _ 1013 [(0, .float 100), (1, .ref q1.1), (2, .ref q3.1), (3, .int s18.1)] [.int q215.1, .int q213.1] q215.2 _
      refine j_icmp_eq (tgt := 1078) dL_law_1013 (by decide) (fun c216 => ?_) (fun c216 => ?_)
      · refine j_pick [0, 1, 2, 3] rfl ?_
        exact hj1078 (s18.1, q215.2)
      · refine j_exit (Sum.inr (Sum.inr (Sum.inr (Sum.inr (Sum.inr (Sum.inr (Sum.inr (Sum.inr (Sum.inr (Sum.inr (Sum.inr (Sum.inr (Sum.inr (Sum.inr (Sum.inr (Sum.inr (Sum.inr (Sum.inr (Sum.inr (Sum.inr (Sum.inr (Sum.inr (Sum.inr (Sum.inr (Sum.inr (Sum.inr (Sum.inr (Sum.inr (Sum.inr (Sum.inr (Sum.inl q215.2))))))))))))))))))))))))))))))) ?_
        try dsimp only
        refine j_iconst (x := 0) dL_law_1016 (by decide) ?_
        exact j_zret (0, q215.2) dL_law_1017 rfl rfl (fun q => q)
    refine j_tabv (w := 31) (off := 986) (tgt := 1018) dL_law_32 (by decide) (by decide) (by decide) (by decide) (fun c217 => ?_) (fun c217 => ?_)
    · refine j_aload_n 1 dL_law_1018 rfl rfl ?_
      refine j_sload_n 0 dL_law_1019 rfl rfl ?_
      refine j_iload_n 3 dL_law_1020 rfl rfl ?_
      refine j_iconst (x := 1) dL_law_1021 (by decide) ?_
      refine j_iadd dL_law_1022 ?_
      refine j_sld dL_law_1023 (fun x218 => ?_)
      refine j_callV (as := [.int x218]) (fun x => some (.int x.1)) (fun x => x.2) 8 12 dL_law_1024 ml_RL_143 tg_X8_status im_X8_status se_X8_status rfl (by decide) (fun x hx => kX8_status κ.1 κ.2.1 q1.1 x218 s18.2 x hx) (Nat.le_of_ble_eq_true rfl) (by decide) rfl rfl (Nat.le_of_ble_eq_true rfl) (fun q219 => ?_)
      show xJ (iL_law nm) κ _ 1027 [(0, .float 100), (1, .ref q1.1), (2, .ref q3.1), (3, .int s18.1)] [.int q219.1] q219.2 _
      refine j_aload_n 2 dL_law_1027 rfl rfl ?_
      refine j_sload_n 0 dL_law_1028 rfl rfl ?_
      refine j_iload_n 3 dL_law_1029 rfl rfl ?_
      refine j_iconst (x := 1) dL_law_1030 (by decide) ?_
      refine j_iadd dL_law_1031 ?_
      refine j_sld dL_law_1032 (fun x220 => ?_)
      refine j_callV (as := [.int x220]) (fun x => some (.int x.1)) (fun x => x.2) 9 18 dL_law_1033 ml_RL_146 tg_X9_status im_X9_status se_X9_status rfl (by decide) (fun x hx => kX9_status κ.1 κ.2.1 q3.1 x220 q219.2 x hx) (Nat.le_of_ble_eq_true rfl) (by decide) rfl rfl (Nat.le_of_ble_eq_true rfl) (fun q221 => ?_)
      show xJ (iL_law nm) κ _ 1036 [(0, .float 100), (1, .ref q1.1), (2, .ref q3.1), (3, .int s18.1)] [.int q221.1, .int q219.1] q221.2 _
      refine j_icmp_eq (tgt := 1078) dL_law_1036 (by decide) (fun c222 => ?_) (fun c222 => ?_)
      · refine j_pick [0, 1, 2, 3] rfl ?_
        exact hj1078 (s18.1, q221.2)
      · refine j_exit (Sum.inr (Sum.inr (Sum.inr (Sum.inr (Sum.inr (Sum.inr (Sum.inr (Sum.inr (Sum.inr (Sum.inr (Sum.inr (Sum.inr (Sum.inr (Sum.inr (Sum.inr (Sum.inr (Sum.inr (Sum.inr (Sum.inr (Sum.inr (Sum.inr (Sum.inr (Sum.inr (Sum.inr (Sum.inr (Sum.inr (Sum.inr (Sum.inr (Sum.inr (Sum.inr (Sum.inr (Sum.inl q221.2)))))))))))))))))))))))))))))))) ?_
        try dsimp only
        refine j_iconst (x := 0) dL_law_1039 (by decide) ?_
        exact j_zret (0, q221.2) dL_law_1040 rfl rfl (fun q => q)
    refine j_tabv (w := 32) (off := 1009) (tgt := 1041) dL_law_32 (by decide) (by decide) (by decide) (by decide) (fun c223 => ?_) (fun c223 => ?_)
    · refine j_aload_n 1 dL_law_1041 rfl rfl ?_
      refine j_sload_n 0 dL_law_1042 rfl rfl ?_
      refine j_iload_n 3 dL_law_1043 rfl rfl ?_
      refine j_iconst (x := 1) dL_law_1044 (by decide) ?_
      refine j_iadd dL_law_1045 ?_
      refine j_sld dL_law_1046 (fun x224 => ?_)
      refine j_callV (as := [.int x224]) (fun x => some (.int x.1)) (fun x => x.2) 8 12 dL_law_1047 ml_RL_147 tg_X8_count im_X8_count se_X8_count rfl (by decide) (fun x hx => kX8_count κ.1 κ.2.1 q1.1 x224 s18.2 x hx) (Nat.le_of_ble_eq_true rfl) (by decide) rfl rfl (Nat.le_of_ble_eq_true rfl) (fun q225 => ?_)
      show xJ (iL_law nm) κ _ 1050 [(0, .float 100), (1, .ref q1.1), (2, .ref q3.1), (3, .int s18.1)] [.int q225.1] q225.2 _
      refine j_aload_n 2 dL_law_1050 rfl rfl ?_
      refine j_sload_n 0 dL_law_1051 rfl rfl ?_
      refine j_iload_n 3 dL_law_1052 rfl rfl ?_
      refine j_iconst (x := 1) dL_law_1053 (by decide) ?_
      refine j_iadd dL_law_1054 ?_
      refine j_sld dL_law_1055 (fun x226 => ?_)
      refine j_callV (as := [.int x226]) (fun x => some (.int x.1)) (fun x => x.2) 9 18 dL_law_1056 ml_RL_150 tg_X9_count im_X9_count se_X9_count rfl (by decide) (fun x hx => kX9_count κ.1 κ.2.1 q3.1 x226 q225.2 x hx) (Nat.le_of_ble_eq_true rfl) (by decide) rfl rfl (Nat.le_of_ble_eq_true rfl) (fun q227 => ?_)
      show xJ (iL_law nm) κ _ 1059 [(0, .float 100), (1, .ref q1.1), (2, .ref q3.1), (3, .int s18.1)] [.int q227.1, .int q225.1] q227.2 _
      refine j_icmp_eq (tgt := 1078) dL_law_1059 (by decide) (fun c228 => ?_) (fun c228 => ?_)
      · refine j_pick [0, 1, 2, 3] rfl ?_
        exact hj1078 (s18.1, q227.2)
      · refine j_exit (Sum.inr (Sum.inr (Sum.inr (Sum.inr (Sum.inr (Sum.inr (Sum.inr (Sum.inr (Sum.inr (Sum.inr (Sum.inr (Sum.inr (Sum.inr (Sum.inr (Sum.inr (Sum.inr (Sum.inr (Sum.inr (Sum.inr (Sum.inr (Sum.inr (Sum.inr (Sum.inr (Sum.inr (Sum.inr (Sum.inr (Sum.inr (Sum.inr (Sum.inr (Sum.inr (Sum.inr (Sum.inr (Sum.inl q227.2))))))))))))))))))))))))))))))))) ?_
        try dsimp only
        refine j_iconst (x := 0) dL_law_1062 (by decide) ?_
        exact j_zret (0, q227.2) dL_law_1063 rfl rfl (fun q => q)
    refine j_tabv (w := 33) (off := 1032) (tgt := 1064) dL_law_32 (by decide) (by decide) (by decide) (by decide) (fun c229 => ?_) (fun c229 => ?_)
    · refine j_aload_n 1 dL_law_1064 rfl rfl ?_
      refine j_callV (as := []) (fun x => some (.long x.1)) (fun x => x.2) 8 12 dL_law_1065 ml_RL_151 tg_X8_digest im_X8_digest se_X8_digest rfl (by decide) (fun x hx => kX8_digest κ.1 κ.2.1 q1.1 s18.2 x hx) (Nat.le_of_ble_eq_true rfl) (by decide) rfl rfl (Nat.le_of_ble_eq_true rfl) (fun q230 => ?_)
      show xJ (iL_law nm) κ _ 1068 [(0, .float 100), (1, .ref q1.1), (2, .ref q3.1), (3, .int s18.1)] [.long q230.1] q230.2 _
      refine j_aload_n 2 dL_law_1068 rfl rfl ?_
      refine j_callV (as := []) (fun x => some (.long x)) (fun _ => q230.2) 9 18 dL_law_1069 ml_RL_155 tg_X9_digest im_X9_digest se_X9_digest rfl (by decide) (fun x hx => kX9_digest κ.1 κ.2.1 q3.1 q230.2 x hx) (Nat.le_of_ble_eq_true rfl) (by decide) rfl rfl (Nat.le_of_ble_eq_true rfl) (fun x231 => ?_)
      show xJ (iL_law nm) κ _ 1072 [(0, .float 100), (1, .ref q1.1), (2, .ref q3.1), (3, .int s18.1)] [.long x231, .long q230.1] q230.2 _
      refine j_lcmp dL_law_1072 ?_
      refine j_if_eq (tgt := 1078) dL_law_1073 (by decide) (fun c232 => ?_) (fun c232 => ?_)
      · refine j_pick [0, 1, 2, 3] rfl ?_
        exact hj1078 (s18.1, q230.2)
      · refine j_exit (Sum.inr (Sum.inr (Sum.inr (Sum.inr (Sum.inr (Sum.inr (Sum.inr (Sum.inr (Sum.inr (Sum.inr (Sum.inr (Sum.inr (Sum.inr (Sum.inr (Sum.inr (Sum.inr (Sum.inr (Sum.inr (Sum.inr (Sum.inr (Sum.inr (Sum.inr (Sum.inr (Sum.inr (Sum.inr (Sum.inr (Sum.inr (Sum.inr (Sum.inr (Sum.inr (Sum.inr (Sum.inr (Sum.inr (Sum.inl q230.2)))))))))))))))))))))))))))))))))) ?_
        try dsimp only
        refine j_iconst (x := 0) dL_law_1076 (by decide) ?_
        exact j_zret (0, q230.2) dL_law_1077 rfl rfl (fun q => q)
    refine j_tabd (tgt := 1078) dL_law_32 (by have ec7 : (x6 &&& 63 : Int32).toInt ≠ 0 := fun q => c7 (Int32.toInt_inj.mp (q.trans (by decide))); have ec13 : (x6 &&& 63 : Int32).toInt ≠ 1 := fun q => c13 (Int32.toInt_inj.mp (q.trans (by decide))); have ec19 : (x6 &&& 63 : Int32).toInt ≠ 2 := fun q => c19 (Int32.toInt_inj.mp (q.trans (by decide))); have ec27 : (x6 &&& 63 : Int32).toInt ≠ 3 := fun q => c27 (Int32.toInt_inj.mp (q.trans (by decide))); have ec39 : (x6 &&& 63 : Int32).toInt ≠ 4 := fun q => c39 (Int32.toInt_inj.mp (q.trans (by decide))); have ec49 : (x6 &&& 63 : Int32).toInt ≠ 5 := fun q => c49 (Int32.toInt_inj.mp (q.trans (by decide))); have ec55 : (x6 &&& 63 : Int32).toInt ≠ 6 := fun q => c55 (Int32.toInt_inj.mp (q.trans (by decide))); have ec59 : (x6 &&& 63 : Int32).toInt ≠ 7 := fun q => c59 (Int32.toInt_inj.mp (q.trans (by decide))); have ec63 : (x6 &&& 63 : Int32).toInt ≠ 8 := fun q => c63 (Int32.toInt_inj.mp (q.trans (by decide))); have ec69 : (x6 &&& 63 : Int32).toInt ≠ 9 := fun q => c69 (Int32.toInt_inj.mp (q.trans (by decide))); have ec75 : (x6 &&& 63 : Int32).toInt ≠ 10 := fun q => c75 (Int32.toInt_inj.mp (q.trans (by decide))); have ec79 : (x6 &&& 63 : Int32).toInt ≠ 11 := fun q => c79 (Int32.toInt_inj.mp (q.trans (by decide))); have ec87 : (x6 &&& 63 : Int32).toInt ≠ 12 := fun q => c87 (Int32.toInt_inj.mp (q.trans (by decide))); have ec97 : (x6 &&& 63 : Int32).toInt ≠ 13 := fun q => c97 (Int32.toInt_inj.mp (q.trans (by decide))); have ec103 : (x6 &&& 63 : Int32).toInt ≠ 14 := fun q => c103 (Int32.toInt_inj.mp (q.trans (by decide))); have ec111 : (x6 &&& 63 : Int32).toInt ≠ 15 := fun q => c111 (Int32.toInt_inj.mp (q.trans (by decide))); have ec117 : (x6 &&& 63 : Int32).toInt ≠ 16 := fun q => c117 (Int32.toInt_inj.mp (q.trans (by decide))); have ec123 : (x6 &&& 63 : Int32).toInt ≠ 17 := fun q => c123 (Int32.toInt_inj.mp (q.trans (by decide))); have ec127 : (x6 &&& 63 : Int32).toInt ≠ 18 := fun q => c127 (Int32.toInt_inj.mp (q.trans (by decide))); have ec131 : (x6 &&& 63 : Int32).toInt ≠ 19 := fun q => c131 (Int32.toInt_inj.mp (q.trans (by decide))); have ec141 : (x6 &&& 63 : Int32).toInt ≠ 20 := fun q => c141 (Int32.toInt_inj.mp (q.trans (by decide))); have ec153 : (x6 &&& 63 : Int32).toInt ≠ 21 := fun q => c153 (Int32.toInt_inj.mp (q.trans (by decide))); have ec157 : (x6 &&& 63 : Int32).toInt ≠ 22 := fun q => c157 (Int32.toInt_inj.mp (q.trans (by decide))); have ec163 : (x6 &&& 63 : Int32).toInt ≠ 23 := fun q => c163 (Int32.toInt_inj.mp (q.trans (by decide))); have ec169 : (x6 &&& 63 : Int32).toInt ≠ 24 := fun q => c169 (Int32.toInt_inj.mp (q.trans (by decide))); have ec175 : (x6 &&& 63 : Int32).toInt ≠ 25 := fun q => c175 (Int32.toInt_inj.mp (q.trans (by decide))); have ec185 : (x6 &&& 63 : Int32).toInt ≠ 26 := fun q => c185 (Int32.toInt_inj.mp (q.trans (by decide))); have ec191 : (x6 &&& 63 : Int32).toInt ≠ 27 := fun q => c191 (Int32.toInt_inj.mp (q.trans (by decide))); have ec199 : (x6 &&& 63 : Int32).toInt ≠ 28 := fun q => c199 (Int32.toInt_inj.mp (q.trans (by decide))); have ec205 : (x6 &&& 63 : Int32).toInt ≠ 29 := fun q => c205 (Int32.toInt_inj.mp (q.trans (by decide))); have ec211 : (x6 &&& 63 : Int32).toInt ≠ 30 := fun q => c211 (Int32.toInt_inj.mp (q.trans (by decide))); have ec217 : (x6 &&& 63 : Int32).toInt ≠ 31 := fun q => c217 (Int32.toInt_inj.mp (q.trans (by decide))); have ec223 : (x6 &&& 63 : Int32).toInt ≠ 32 := fun q => c223 (Int32.toInt_inj.mp (q.trans (by decide))); have ec229 : (x6 &&& 63 : Int32).toInt ≠ 33 := fun q => c229 (Int32.toInt_inj.mp (q.trans (by decide))); omega) (by decide) ?_
    refine j_pick [0, 1, 2, 3] rfl ?_
    exact hj1078 (s18.1, s18.2)
