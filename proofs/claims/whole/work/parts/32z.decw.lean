theorem kL_law_39 : decode mL_law.2.1 39 = .ok (.tableswitch 938 0 16 #[81, 125, 181, 248, 340, 388, 444, 492, 560, 616, 652, 665, 678, 691, 747, 803, 871], 81) := by decide +kernel
