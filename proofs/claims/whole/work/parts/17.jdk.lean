/-! methods of the JDK that are called -/
def mJ_floorMod : ab_M := ((yJ9_floorMod_7cf53, cJ9_floorMod_7cf53, 3, (some .int)), ([], [], [], false, false, 0), (true, 100, 2))
def mJ_length : ab_M := ((yJ0_length_8abf5, cJ0_length_8abf5, 1, (some .int)), ([], [], [], false, false, 0), (false, 100, 0))
def mJ_charAt : ab_M := ((yJ0_charAt_5068e, cJ0_charAt_5068e, 2, (some .char)), ([], [], [], false, false, 0), (false, 100, 1))
