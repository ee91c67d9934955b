/** Promises 16 and 17: what if. */
public final class WhatIfTest {
    private static final int NONE = SettingsVault.NONE;

    public static void main(String[] args) {
        promise16();
        promise16errors();
        promise17();
        promise17full();
        promise17spoiled();
        promise17errors();
        Check.end();
    }

    private static void promise16() {
        SettingsVault vault = Check.ready("+a100=50,+b100=60,+e9=1", "a*3,b/7,-e,+e8=8", "a/2,b>c,+d9=9,d/2");
        vault.set(0, 90);
        vault.set(1, 100);
        vault.set(2, 5);
        Check.due("a in 1", vault.ifMigrated(1, 0), 255);
        Check.due("a in 2", vault.ifMigrated(2, 0), 127);
        Check.due("b in 1", vault.ifMigrated(1, 1), 14);
        Check.due("c in 2", vault.ifMigrated(2, 2), 14);
        Check.due("d in 2", vault.ifMigrated(2, 3), 4);
        Check.due("e in 1", vault.ifMigrated(1, 4), 8);
        Check.due("nothing changes", vault.get(0), 90);
        Check.due("no write", vault.state(10), 9);
        Check.due("no migration", vault.state(2), 0);
        vault.fail(0);
        Check.due("whatever the power", vault.ifMigrated(2, 0), 127);
        Check.due("it is still set", vault.fail(NONE), 1);
        Check.due("migrate", vault.migrate(1), 9);
        Check.due("a in 2 from 1", vault.ifMigrated(2, 0), 127);
    }

    private static void promise16errors() {
        SettingsVault vault = Check.vault("+a100=50", "a>b", "b*2");
        Check.due("no active page", vault.ifMigrated(1, 1), SettingsVault.NOT_POSSIBLE);
        Check.due("no active page, no version", vault.ifMigrated(7, 1), SettingsVault.NOT_POSSIBLE);
        vault.factory(1);
        for (int version : new int[] {Integer.MIN_VALUE, -1, 3, 6, Integer.MAX_VALUE}) {
            Check.due("version " + version, vault.ifMigrated(version, 1), SettingsVault.NO_SUCH);
        }
        for (int name : new int[] {Integer.MIN_VALUE, -1, 0, 10, Integer.MAX_VALUE}) {
            Check.due("name " + name, vault.ifMigrated(2, name), SettingsVault.NO_SUCH);
        }
        Check.due("present version", vault.ifMigrated(1, 1), SettingsVault.BAD_VALUE);
        Check.due("earlier version", vault.ifMigrated(0, 0), SettingsVault.BAD_VALUE);
        Check.due("earlier version, no name there", vault.ifMigrated(0, 1), SettingsVault.NO_SUCH);
        vault.fail(0);
        vault.compact();
        Check.due("off", vault.ifMigrated(2, 1), SettingsVault.NOT_POSSIBLE);
    }

    private static void promise17() {
        SettingsVault vault = Check.ready("+a99=10,+b9=1");
        vault.set(0, 50);
        vault.fail(1);
        for (int writes : new int[] {0, 1, 2}) {
            Check.due("behind " + writes, vault.ifFailed(0, 60, writes, 0), 50);
        }
        Check.due("behind 3", vault.ifFailed(0, 60, 3, 0), 60);
        Check.due("behind 200", vault.ifFailed(0, 60, 200, 0), 60);
        Check.due("another is asked for", vault.ifFailed(0, 60, 200, 1), 1);
        Check.due("the same value", vault.ifFailed(0, 50, 0, 0), 50);
        Check.due("nothing changes", vault.get(0), 50);
        Check.due("no write", vault.state(10), 6);
        Check.due("the power is on", vault.state(0), 1);
        Check.due("the failure stays set", vault.state(9), 1);
        Check.due("no cell", vault.cell(0, 6), NONE);
    }

    private static void promise17full() {
        SettingsVault vault = Check.ready("+a99=10,+b9=1");
        vault.set(1, 7);
        for (int i = 0; i < 14; i++) {
            vault.set(0, 20 + i);
        }
        Check.due("full", vault.state(4), 0);
        for (int writes = 0; writes < 9; writes++) {
            Check.due("behind " + writes, vault.ifFailed(0, 60, writes, 0), 33);
        }
        Check.due("behind 9", vault.ifFailed(0, 60, 9, 0), 60);
        Check.due("b", vault.ifFailed(0, 60, 9, 1), 7);
        Check.due("the default takes less", vault.ifFailed(0, 10, 6, 0), 10);
        Check.due("but not so little", vault.ifFailed(0, 10, 5, 0), 33);
        Check.due("nothing changes", vault.state(11), 2);
        Check.due("nor here", vault.page(1, 5), 0);
        vault.spoil(0, 0, 0);
        Check.due("a lost page", vault.ifFailed(0, 60, 8, 0), NONE);
        Check.due("saved in time", vault.ifFailed(0, 60, 9, 0), 60);
    }

    private static void promise17spoiled() {
        SettingsVault vault = Check.ready("+a99=10,+b9=1", "a/2,b>c");
        vault.set(0, 50);
        vault.spoil(0, 4, 51);
        Check.due("a spoiled record", vault.ifFailed(0, 50, 0, 0), 10);
        vault.spoil(0, 3, NONE);
        Check.due("a new one behind it", vault.ifFailed(0, 60, 3, 0), 10);
        Check.spoilHead(vault, 1, 1, 1);
        Check.due("another page is found", vault.ifFailed(0, 60, 200, 0), 5);
        Check.due("without this setting", vault.ifFailed(0, 60, 200, 1), NONE);
        Check.due("a setting of the other version", vault.ifFailed(0, 60, 200, 2), SettingsVault.NO_SUCH);
        vault.spoil(1, 0, NONE);
        vault.spoil(0, 0, NONE);
        Check.due("none is found", vault.ifFailed(1, 2, 200, 0), NONE);
        Check.due("still active", vault.state(1), 0);
    }

    private static void promise17errors() {
        SettingsVault vault = Check.vault("+a99=10,+b9=1", "b>c");
        Check.due("no active page", vault.ifFailed(0, 1, 0, 0), SettingsVault.NO_SUCH);
        vault.factory(0);
        for (int name : new int[] {Integer.MIN_VALUE, -1, 2, 10, Integer.MAX_VALUE}) {
            Check.due("name " + name, vault.ifFailed(name, 1, 0, 0), SettingsVault.NO_SUCH);
            Check.due("asked " + name, vault.ifFailed(0, -1, -1, name), SettingsVault.NO_SUCH);
        }
        for (int value : new int[] {Integer.MIN_VALUE, NONE, -1, 10, 256, Integer.MAX_VALUE}) {
            Check.due("value " + value, vault.ifFailed(1, value, 0, 0), SettingsVault.BAD_VALUE);
        }
        for (int writes : new int[] {Integer.MIN_VALUE, NONE, -1, 201, Integer.MAX_VALUE}) {
            Check.due("writes " + writes, vault.ifFailed(1, 2, writes, 0), SettingsVault.BAD_VALUE);
        }
        vault.fail(0);
        vault.compact();
        Check.due("off", vault.ifFailed(0, 1, 0, 0), SettingsVault.NOT_POSSIBLE);
        Check.due("off, no name", vault.ifFailed(5, 1, 0, 0), SettingsVault.NOT_POSSIBLE);
    }
}
